noncomputable section
-- PART 07.checks
-- EVERY ENTRY OF THE LISTS OF 03 IS CHECKED, along the bytes of the code
theorem iq_at {c : ByteArray} {p : Nat} {b : UInt8} {r : List UInt8} (h : c.data.toList.drop p = b :: r) : ∃ hp : p < c.size, c[p] = b ∧ c.data.toList.drop (p + 1) = r := by
  have hl : p < c.data.toList.length := by
    rcases Nat.lt_or_ge p c.data.toList.length with q | q
    · exact q
    · rw [List.drop_eq_nil_of_le q] at h
      cases h
  rw [List.drop_eq_getElem_cons hl] at h
  obtain ⟨h1, h2⟩ := List.cons.inj h
  exact ⟨hl, h1, h2⟩
theorem iq_u1d {c : ByteArray} {p : Nat} (hp : p < c.size) : (Reader.u1 : Reader DecodeError Nat) c p = .ok (c[p].toNat, p + 1) := by
  show (dite (p < c.size) (fun h => (do set (p + 1); pure (c[p]'h).toNat : Reader DecodeError Nat)) (fun _ => (throw (HasTruncated.truncated p) : Reader DecodeError Nat))) c p = _
  rw [dif_pos hp]
  rfl
theorem iq_u1e {c : ByteArray} {p : Nat} {b : UInt8} {r : List UInt8} (h : c.data.toList.drop p = b :: r) : (Reader.u1 : Reader DecodeError Nat) c p = .ok (b.toNat, p + 1) := by
  obtain ⟨hp, hb, -⟩ := iq_at h
  have e := iq_u1d hp
  rw [hb] at e
  exact e
theorem iq_bnd {α β : Type} {c : ByteArray} {p q : Nat} {a : β} {m : Reader DecodeError β} (f : β → Reader DecodeError α) (h : m c p = .ok (a, q)) : (m >>= f : Reader DecodeError α) c p = f a c q := by
  show (do let x ← m c p; f x.1 c x.2 : Except DecodeError (α × Nat)) = _
  rw [h]
  rfl
theorem iq_b1 {α : Type} {c : ByteArray} {p : Nat} {b : UInt8} {r : List UInt8} (f : Nat → Reader DecodeError α) (h : c.data.toList.drop p = b :: r) : (Reader.u1 >>= f : Reader DecodeError α) c p = f b.toNat c (p + 1) := iq_bnd f (iq_u1e h)
theorem iq_b1n {α : Type} {c : ByteArray} {p n : Nat} {b : UInt8} {r : List UInt8} (f : Nat → Reader DecodeError α) (h : c.data.toList.drop p = b :: r) (hb : b.toNat = n) : (Reader.u1 >>= f : Reader DecodeError α) c p = f n c (p + 1) := (iq_b1 f h).trans (congrArg (fun n => f n c (p + 1)) hb)
theorem iq_u2e {c : ByteArray} {p : Nat} {b d : UInt8} {r : List UInt8} (h : c.data.toList.drop p = b :: d :: r) : (Reader.u2 : Reader DecodeError Nat) c p = .ok (b.toNat * 256 + d.toNat, p + 2) := by
  obtain ⟨-, -, h2⟩ := iq_at h
  exact (iq_b1 _ h).trans ((iq_b1 _ h2).trans rfl)
theorem iq_b2 {α : Type} {c : ByteArray} {p : Nat} {b d : UInt8} {r : List UInt8} (f : Nat → Reader DecodeError α) (h : c.data.toList.drop p = b :: d :: r) : (Reader.u2 >>= f : Reader DecodeError α) c p = f (b.toNat * 256 + d.toNat) c (p + 2) := iq_bnd f (iq_u2e h)
theorem iq_s1e {c : ByteArray} {p : Nat} {b : UInt8} {r : List UInt8} (h : c.data.toList.drop p = b :: r) : (Reader.s1 : Reader DecodeError Int) c p = .ok (Reader.signed 8 b.toNat, p + 1) := by
  show (do let x ← (Reader.u1 : Reader DecodeError Nat) c p; pure (Reader.signed 8 x.1, x.2) : Except DecodeError (Int × Nat)) = _
  rw [iq_u1e h]
  rfl
theorem iq_s2e {c : ByteArray} {p : Nat} {b d : UInt8} {r : List UInt8} (h : c.data.toList.drop p = b :: d :: r) : (Reader.s2 : Reader DecodeError Int) c p = .ok (Reader.signed 16 (b.toNat * 256 + d.toNat), p + 2) := by
  show (do let x ← (Reader.u2 : Reader DecodeError Nat) c p; pure (Reader.signed 16 x.1, x.2) : Except DecodeError (Int × Nat)) = _
  rw [iq_u2e h]
  rfl
theorem iq_b1s {α : Type} {c : ByteArray} {p : Nat} {b : UInt8} {r : List UInt8} (f : Int → Reader DecodeError α) (h : c.data.toList.drop p = b :: r) : (Reader.s1 >>= f : Reader DecodeError α) c p = f (Reader.signed 8 b.toNat) c (p + 1) := iq_bnd f (iq_s1e h)
theorem iq_b2s {α : Type} {c : ByteArray} {p : Nat} {b d : UInt8} {r : List UInt8} (f : Int → Reader DecodeError α) (h : c.data.toList.drop p = b :: d :: r) : (Reader.s2 >>= f : Reader DecodeError α) c p = f (Reader.signed 16 (b.toNat * 256 + d.toNat)) c (p + 2) := iq_bnd f (iq_s2e h)
theorem iq_dcd {c : ByteArray} {p : Nat} {i : Instr} {L : Nat} (h : Decoder.instr p c p = .ok (i, p + L)) : decode c p = .ok (i, L) := by
  show (do let x ← Decoder.instr p c p; pure (x.1, x.2 - p) : Except DecodeError (Instr × Nat)) = _
  rw [h]
  show Except.ok (i, p + L - p) = Except.ok (i, L)
  rw [Nat.add_sub_cancel_left]
theorem iq_tl {c : ByteArray} {p : Nat} {b : UInt8} {r : List UInt8} (h : c.data.toList.drop p = b :: r) : c.data.toList.drop (p + 1) = r := Exists.elim (iq_at h) fun _ q => q.2
set_option maxRecDepth 20000 in
theorem iq_o46 {c : ByteArray} {p : Nat} {b : UInt8} {r : List UInt8} (h : c.data.toList.drop p = b :: r) (hb : b.toNat = 46) : decode c p = .ok (.iaload, 1) := iq_dcd ((iq_b1n _ h hb).trans rfl)
set_option maxRecDepth 20000 in
theorem iq_o47 {c : ByteArray} {p : Nat} {b : UInt8} {r : List UInt8} (h : c.data.toList.drop p = b :: r) (hb : b.toNat = 47) : decode c p = .ok (.laload, 1) := iq_dcd ((iq_b1n _ h hb).trans rfl)
set_option maxRecDepth 20000 in
theorem iq_o50 {c : ByteArray} {p : Nat} {b : UInt8} {r : List UInt8} (h : c.data.toList.drop p = b :: r) (hb : b.toNat = 50) : decode c p = .ok (.aaload, 1) := iq_dcd ((iq_b1n _ h hb).trans rfl)
set_option maxRecDepth 20000 in
theorem iq_o51 {c : ByteArray} {p : Nat} {b : UInt8} {r : List UInt8} (h : c.data.toList.drop p = b :: r) (hb : b.toNat = 51) : decode c p = .ok (.baload, 1) := iq_dcd ((iq_b1n _ h hb).trans rfl)
set_option maxRecDepth 20000 in
theorem iq_o79 {c : ByteArray} {p : Nat} {b : UInt8} {r : List UInt8} (h : c.data.toList.drop p = b :: r) (hb : b.toNat = 79) : decode c p = .ok (.iastore, 1) := iq_dcd ((iq_b1n _ h hb).trans rfl)
set_option maxRecDepth 20000 in
theorem iq_o80 {c : ByteArray} {p : Nat} {b : UInt8} {r : List UInt8} (h : c.data.toList.drop p = b :: r) (hb : b.toNat = 80) : decode c p = .ok (.lastore, 1) := iq_dcd ((iq_b1n _ h hb).trans rfl)
set_option maxRecDepth 20000 in
theorem iq_o83 {c : ByteArray} {p : Nat} {b : UInt8} {r : List UInt8} (h : c.data.toList.drop p = b :: r) (hb : b.toNat = 83) : decode c p = .ok (.aastore, 1) := iq_dcd ((iq_b1n _ h hb).trans rfl)
set_option maxRecDepth 20000 in
theorem iq_o84 {c : ByteArray} {p : Nat} {b : UInt8} {r : List UInt8} (h : c.data.toList.drop p = b :: r) (hb : b.toNat = 84) : decode c p = .ok (.bastore, 1) := iq_dcd ((iq_b1n _ h hb).trans rfl)
set_option maxRecDepth 20000 in
theorem iq_o87 {c : ByteArray} {p : Nat} {b : UInt8} {r : List UInt8} (h : c.data.toList.drop p = b :: r) (hb : b.toNat = 87) : decode c p = .ok (.pop, 1) := iq_dcd ((iq_b1n _ h hb).trans rfl)
set_option maxRecDepth 20000 in
theorem iq_o88 {c : ByteArray} {p : Nat} {b : UInt8} {r : List UInt8} (h : c.data.toList.drop p = b :: r) (hb : b.toNat = 88) : decode c p = .ok (.pop2, 1) := iq_dcd ((iq_b1n _ h hb).trans rfl)
set_option maxRecDepth 20000 in
theorem iq_o89 {c : ByteArray} {p : Nat} {b : UInt8} {r : List UInt8} (h : c.data.toList.drop p = b :: r) (hb : b.toNat = 89) : decode c p = .ok (.dup, 1) := iq_dcd ((iq_b1n _ h hb).trans rfl)
set_option maxRecDepth 20000 in
theorem iq_o92 {c : ByteArray} {p : Nat} {b : UInt8} {r : List UInt8} (h : c.data.toList.drop p = b :: r) (hb : b.toNat = 92) : decode c p = .ok (.dup2, 1) := iq_dcd ((iq_b1n _ h hb).trans rfl)
set_option maxRecDepth 20000 in
theorem iq_o96 {c : ByteArray} {p : Nat} {b : UInt8} {r : List UInt8} (h : c.data.toList.drop p = b :: r) (hb : b.toNat = 96) : decode c p = .ok (.iadd, 1) := iq_dcd ((iq_b1n _ h hb).trans rfl)
set_option maxRecDepth 20000 in
theorem iq_o97 {c : ByteArray} {p : Nat} {b : UInt8} {r : List UInt8} (h : c.data.toList.drop p = b :: r) (hb : b.toNat = 97) : decode c p = .ok (.ladd, 1) := iq_dcd ((iq_b1n _ h hb).trans rfl)
set_option maxRecDepth 20000 in
theorem iq_o100 {c : ByteArray} {p : Nat} {b : UInt8} {r : List UInt8} (h : c.data.toList.drop p = b :: r) (hb : b.toNat = 100) : decode c p = .ok (.isub, 1) := iq_dcd ((iq_b1n _ h hb).trans rfl)
set_option maxRecDepth 20000 in
theorem iq_o101 {c : ByteArray} {p : Nat} {b : UInt8} {r : List UInt8} (h : c.data.toList.drop p = b :: r) (hb : b.toNat = 101) : decode c p = .ok (.lsub, 1) := iq_dcd ((iq_b1n _ h hb).trans rfl)
set_option maxRecDepth 20000 in
theorem iq_o104 {c : ByteArray} {p : Nat} {b : UInt8} {r : List UInt8} (h : c.data.toList.drop p = b :: r) (hb : b.toNat = 104) : decode c p = .ok (.imul, 1) := iq_dcd ((iq_b1n _ h hb).trans rfl)
set_option maxRecDepth 20000 in
theorem iq_o105 {c : ByteArray} {p : Nat} {b : UInt8} {r : List UInt8} (h : c.data.toList.drop p = b :: r) (hb : b.toNat = 105) : decode c p = .ok (.lmul, 1) := iq_dcd ((iq_b1n _ h hb).trans rfl)
set_option maxRecDepth 20000 in
theorem iq_o108 {c : ByteArray} {p : Nat} {b : UInt8} {r : List UInt8} (h : c.data.toList.drop p = b :: r) (hb : b.toNat = 108) : decode c p = .ok (.idiv, 1) := iq_dcd ((iq_b1n _ h hb).trans rfl)
set_option maxRecDepth 20000 in
theorem iq_o109 {c : ByteArray} {p : Nat} {b : UInt8} {r : List UInt8} (h : c.data.toList.drop p = b :: r) (hb : b.toNat = 109) : decode c p = .ok (.ldiv, 1) := iq_dcd ((iq_b1n _ h hb).trans rfl)
set_option maxRecDepth 20000 in
theorem iq_o112 {c : ByteArray} {p : Nat} {b : UInt8} {r : List UInt8} (h : c.data.toList.drop p = b :: r) (hb : b.toNat = 112) : decode c p = .ok (.irem, 1) := iq_dcd ((iq_b1n _ h hb).trans rfl)
set_option maxRecDepth 20000 in
theorem iq_o113 {c : ByteArray} {p : Nat} {b : UInt8} {r : List UInt8} (h : c.data.toList.drop p = b :: r) (hb : b.toNat = 113) : decode c p = .ok (.lrem, 1) := iq_dcd ((iq_b1n _ h hb).trans rfl)
set_option maxRecDepth 20000 in
theorem iq_o116 {c : ByteArray} {p : Nat} {b : UInt8} {r : List UInt8} (h : c.data.toList.drop p = b :: r) (hb : b.toNat = 116) : decode c p = .ok (.ineg, 1) := iq_dcd ((iq_b1n _ h hb).trans rfl)
set_option maxRecDepth 20000 in
theorem iq_o117 {c : ByteArray} {p : Nat} {b : UInt8} {r : List UInt8} (h : c.data.toList.drop p = b :: r) (hb : b.toNat = 117) : decode c p = .ok (.lneg, 1) := iq_dcd ((iq_b1n _ h hb).trans rfl)
set_option maxRecDepth 20000 in
theorem iq_o120 {c : ByteArray} {p : Nat} {b : UInt8} {r : List UInt8} (h : c.data.toList.drop p = b :: r) (hb : b.toNat = 120) : decode c p = .ok (.ishl, 1) := iq_dcd ((iq_b1n _ h hb).trans rfl)
set_option maxRecDepth 20000 in
theorem iq_o121 {c : ByteArray} {p : Nat} {b : UInt8} {r : List UInt8} (h : c.data.toList.drop p = b :: r) (hb : b.toNat = 121) : decode c p = .ok (.lshl, 1) := iq_dcd ((iq_b1n _ h hb).trans rfl)
set_option maxRecDepth 20000 in
theorem iq_o122 {c : ByteArray} {p : Nat} {b : UInt8} {r : List UInt8} (h : c.data.toList.drop p = b :: r) (hb : b.toNat = 122) : decode c p = .ok (.ishr, 1) := iq_dcd ((iq_b1n _ h hb).trans rfl)
set_option maxRecDepth 20000 in
theorem iq_o123 {c : ByteArray} {p : Nat} {b : UInt8} {r : List UInt8} (h : c.data.toList.drop p = b :: r) (hb : b.toNat = 123) : decode c p = .ok (.lshr, 1) := iq_dcd ((iq_b1n _ h hb).trans rfl)
set_option maxRecDepth 20000 in
theorem iq_o124 {c : ByteArray} {p : Nat} {b : UInt8} {r : List UInt8} (h : c.data.toList.drop p = b :: r) (hb : b.toNat = 124) : decode c p = .ok (.iushr, 1) := iq_dcd ((iq_b1n _ h hb).trans rfl)
set_option maxRecDepth 20000 in
theorem iq_o125 {c : ByteArray} {p : Nat} {b : UInt8} {r : List UInt8} (h : c.data.toList.drop p = b :: r) (hb : b.toNat = 125) : decode c p = .ok (.lushr, 1) := iq_dcd ((iq_b1n _ h hb).trans rfl)
set_option maxRecDepth 20000 in
theorem iq_o126 {c : ByteArray} {p : Nat} {b : UInt8} {r : List UInt8} (h : c.data.toList.drop p = b :: r) (hb : b.toNat = 126) : decode c p = .ok (.iand, 1) := iq_dcd ((iq_b1n _ h hb).trans rfl)
set_option maxRecDepth 20000 in
theorem iq_o127 {c : ByteArray} {p : Nat} {b : UInt8} {r : List UInt8} (h : c.data.toList.drop p = b :: r) (hb : b.toNat = 127) : decode c p = .ok (.land, 1) := iq_dcd ((iq_b1n _ h hb).trans rfl)
set_option maxRecDepth 20000 in
theorem iq_o128 {c : ByteArray} {p : Nat} {b : UInt8} {r : List UInt8} (h : c.data.toList.drop p = b :: r) (hb : b.toNat = 128) : decode c p = .ok (.ior, 1) := iq_dcd ((iq_b1n _ h hb).trans rfl)
set_option maxRecDepth 20000 in
theorem iq_o129 {c : ByteArray} {p : Nat} {b : UInt8} {r : List UInt8} (h : c.data.toList.drop p = b :: r) (hb : b.toNat = 129) : decode c p = .ok (.lor, 1) := iq_dcd ((iq_b1n _ h hb).trans rfl)
set_option maxRecDepth 20000 in
theorem iq_o130 {c : ByteArray} {p : Nat} {b : UInt8} {r : List UInt8} (h : c.data.toList.drop p = b :: r) (hb : b.toNat = 130) : decode c p = .ok (.ixor, 1) := iq_dcd ((iq_b1n _ h hb).trans rfl)
set_option maxRecDepth 20000 in
theorem iq_o131 {c : ByteArray} {p : Nat} {b : UInt8} {r : List UInt8} (h : c.data.toList.drop p = b :: r) (hb : b.toNat = 131) : decode c p = .ok (.lxor, 1) := iq_dcd ((iq_b1n _ h hb).trans rfl)
set_option maxRecDepth 20000 in
theorem iq_o133 {c : ByteArray} {p : Nat} {b : UInt8} {r : List UInt8} (h : c.data.toList.drop p = b :: r) (hb : b.toNat = 133) : decode c p = .ok (.i2l, 1) := iq_dcd ((iq_b1n _ h hb).trans rfl)
set_option maxRecDepth 20000 in
theorem iq_o136 {c : ByteArray} {p : Nat} {b : UInt8} {r : List UInt8} (h : c.data.toList.drop p = b :: r) (hb : b.toNat = 136) : decode c p = .ok (.l2i, 1) := iq_dcd ((iq_b1n _ h hb).trans rfl)
set_option maxRecDepth 20000 in
theorem iq_o145 {c : ByteArray} {p : Nat} {b : UInt8} {r : List UInt8} (h : c.data.toList.drop p = b :: r) (hb : b.toNat = 145) : decode c p = .ok (.i2b, 1) := iq_dcd ((iq_b1n _ h hb).trans rfl)
set_option maxRecDepth 20000 in
theorem iq_o146 {c : ByteArray} {p : Nat} {b : UInt8} {r : List UInt8} (h : c.data.toList.drop p = b :: r) (hb : b.toNat = 146) : decode c p = .ok (.i2c, 1) := iq_dcd ((iq_b1n _ h hb).trans rfl)
set_option maxRecDepth 20000 in
theorem iq_o147 {c : ByteArray} {p : Nat} {b : UInt8} {r : List UInt8} (h : c.data.toList.drop p = b :: r) (hb : b.toNat = 147) : decode c p = .ok (.i2s, 1) := iq_dcd ((iq_b1n _ h hb).trans rfl)
set_option maxRecDepth 20000 in
theorem iq_o148 {c : ByteArray} {p : Nat} {b : UInt8} {r : List UInt8} (h : c.data.toList.drop p = b :: r) (hb : b.toNat = 148) : decode c p = .ok (.lcmp, 1) := iq_dcd ((iq_b1n _ h hb).trans rfl)
set_option maxRecDepth 20000 in
theorem iq_o172 {c : ByteArray} {p : Nat} {b : UInt8} {r : List UInt8} (h : c.data.toList.drop p = b :: r) (hb : b.toNat = 172) : decode c p = .ok (.ireturn, 1) := iq_dcd ((iq_b1n _ h hb).trans rfl)
set_option maxRecDepth 20000 in
theorem iq_o173 {c : ByteArray} {p : Nat} {b : UInt8} {r : List UInt8} (h : c.data.toList.drop p = b :: r) (hb : b.toNat = 173) : decode c p = .ok (.lreturn, 1) := iq_dcd ((iq_b1n _ h hb).trans rfl)
set_option maxRecDepth 20000 in
theorem iq_o176 {c : ByteArray} {p : Nat} {b : UInt8} {r : List UInt8} (h : c.data.toList.drop p = b :: r) (hb : b.toNat = 176) : decode c p = .ok (.areturn, 1) := iq_dcd ((iq_b1n _ h hb).trans rfl)
set_option maxRecDepth 20000 in
theorem iq_o177 {c : ByteArray} {p : Nat} {b : UInt8} {r : List UInt8} (h : c.data.toList.drop p = b :: r) (hb : b.toNat = 177) : decode c p = .ok (.return_, 1) := iq_dcd ((iq_b1n _ h hb).trans rfl)
set_option maxRecDepth 20000 in
theorem iq_o190 {c : ByteArray} {p : Nat} {b : UInt8} {r : List UInt8} (h : c.data.toList.drop p = b :: r) (hb : b.toNat = 190) : decode c p = .ok (.arraylength, 1) := iq_dcd ((iq_b1n _ h hb).trans rfl)
set_option maxRecDepth 20000 in
theorem iq_o26 {c : ByteArray} {p : Nat} {b : UInt8} {r : List UInt8} (h : c.data.toList.drop p = b :: r) (hb : b.toNat = 26) : decode c p = .ok (.iload_n 0, 1) := iq_dcd ((iq_b1n _ h hb).trans rfl)
set_option maxRecDepth 20000 in
theorem iq_o27 {c : ByteArray} {p : Nat} {b : UInt8} {r : List UInt8} (h : c.data.toList.drop p = b :: r) (hb : b.toNat = 27) : decode c p = .ok (.iload_n 1, 1) := iq_dcd ((iq_b1n _ h hb).trans rfl)
set_option maxRecDepth 20000 in
theorem iq_o28 {c : ByteArray} {p : Nat} {b : UInt8} {r : List UInt8} (h : c.data.toList.drop p = b :: r) (hb : b.toNat = 28) : decode c p = .ok (.iload_n 2, 1) := iq_dcd ((iq_b1n _ h hb).trans rfl)
set_option maxRecDepth 20000 in
theorem iq_o29 {c : ByteArray} {p : Nat} {b : UInt8} {r : List UInt8} (h : c.data.toList.drop p = b :: r) (hb : b.toNat = 29) : decode c p = .ok (.iload_n 3, 1) := iq_dcd ((iq_b1n _ h hb).trans rfl)
set_option maxRecDepth 20000 in
theorem iq_o30 {c : ByteArray} {p : Nat} {b : UInt8} {r : List UInt8} (h : c.data.toList.drop p = b :: r) (hb : b.toNat = 30) : decode c p = .ok (.lload_n 0, 1) := iq_dcd ((iq_b1n _ h hb).trans rfl)
set_option maxRecDepth 20000 in
theorem iq_o31 {c : ByteArray} {p : Nat} {b : UInt8} {r : List UInt8} (h : c.data.toList.drop p = b :: r) (hb : b.toNat = 31) : decode c p = .ok (.lload_n 1, 1) := iq_dcd ((iq_b1n _ h hb).trans rfl)
set_option maxRecDepth 20000 in
theorem iq_o32 {c : ByteArray} {p : Nat} {b : UInt8} {r : List UInt8} (h : c.data.toList.drop p = b :: r) (hb : b.toNat = 32) : decode c p = .ok (.lload_n 2, 1) := iq_dcd ((iq_b1n _ h hb).trans rfl)
set_option maxRecDepth 20000 in
theorem iq_o33 {c : ByteArray} {p : Nat} {b : UInt8} {r : List UInt8} (h : c.data.toList.drop p = b :: r) (hb : b.toNat = 33) : decode c p = .ok (.lload_n 3, 1) := iq_dcd ((iq_b1n _ h hb).trans rfl)
set_option maxRecDepth 20000 in
theorem iq_o42 {c : ByteArray} {p : Nat} {b : UInt8} {r : List UInt8} (h : c.data.toList.drop p = b :: r) (hb : b.toNat = 42) : decode c p = .ok (.aload_n 0, 1) := iq_dcd ((iq_b1n _ h hb).trans rfl)
set_option maxRecDepth 20000 in
theorem iq_o43 {c : ByteArray} {p : Nat} {b : UInt8} {r : List UInt8} (h : c.data.toList.drop p = b :: r) (hb : b.toNat = 43) : decode c p = .ok (.aload_n 1, 1) := iq_dcd ((iq_b1n _ h hb).trans rfl)
set_option maxRecDepth 20000 in
theorem iq_o44 {c : ByteArray} {p : Nat} {b : UInt8} {r : List UInt8} (h : c.data.toList.drop p = b :: r) (hb : b.toNat = 44) : decode c p = .ok (.aload_n 2, 1) := iq_dcd ((iq_b1n _ h hb).trans rfl)
set_option maxRecDepth 20000 in
theorem iq_o45 {c : ByteArray} {p : Nat} {b : UInt8} {r : List UInt8} (h : c.data.toList.drop p = b :: r) (hb : b.toNat = 45) : decode c p = .ok (.aload_n 3, 1) := iq_dcd ((iq_b1n _ h hb).trans rfl)
set_option maxRecDepth 20000 in
theorem iq_o59 {c : ByteArray} {p : Nat} {b : UInt8} {r : List UInt8} (h : c.data.toList.drop p = b :: r) (hb : b.toNat = 59) : decode c p = .ok (.istore_n 0, 1) := iq_dcd ((iq_b1n _ h hb).trans rfl)
set_option maxRecDepth 20000 in
theorem iq_o60 {c : ByteArray} {p : Nat} {b : UInt8} {r : List UInt8} (h : c.data.toList.drop p = b :: r) (hb : b.toNat = 60) : decode c p = .ok (.istore_n 1, 1) := iq_dcd ((iq_b1n _ h hb).trans rfl)
set_option maxRecDepth 20000 in
theorem iq_o61 {c : ByteArray} {p : Nat} {b : UInt8} {r : List UInt8} (h : c.data.toList.drop p = b :: r) (hb : b.toNat = 61) : decode c p = .ok (.istore_n 2, 1) := iq_dcd ((iq_b1n _ h hb).trans rfl)
set_option maxRecDepth 20000 in
theorem iq_o62 {c : ByteArray} {p : Nat} {b : UInt8} {r : List UInt8} (h : c.data.toList.drop p = b :: r) (hb : b.toNat = 62) : decode c p = .ok (.istore_n 3, 1) := iq_dcd ((iq_b1n _ h hb).trans rfl)
set_option maxRecDepth 20000 in
theorem iq_o63 {c : ByteArray} {p : Nat} {b : UInt8} {r : List UInt8} (h : c.data.toList.drop p = b :: r) (hb : b.toNat = 63) : decode c p = .ok (.lstore_n 0, 1) := iq_dcd ((iq_b1n _ h hb).trans rfl)
set_option maxRecDepth 20000 in
theorem iq_o64 {c : ByteArray} {p : Nat} {b : UInt8} {r : List UInt8} (h : c.data.toList.drop p = b :: r) (hb : b.toNat = 64) : decode c p = .ok (.lstore_n 1, 1) := iq_dcd ((iq_b1n _ h hb).trans rfl)
set_option maxRecDepth 20000 in
theorem iq_o65 {c : ByteArray} {p : Nat} {b : UInt8} {r : List UInt8} (h : c.data.toList.drop p = b :: r) (hb : b.toNat = 65) : decode c p = .ok (.lstore_n 2, 1) := iq_dcd ((iq_b1n _ h hb).trans rfl)
set_option maxRecDepth 20000 in
theorem iq_o66 {c : ByteArray} {p : Nat} {b : UInt8} {r : List UInt8} (h : c.data.toList.drop p = b :: r) (hb : b.toNat = 66) : decode c p = .ok (.lstore_n 3, 1) := iq_dcd ((iq_b1n _ h hb).trans rfl)
set_option maxRecDepth 20000 in
theorem iq_o75 {c : ByteArray} {p : Nat} {b : UInt8} {r : List UInt8} (h : c.data.toList.drop p = b :: r) (hb : b.toNat = 75) : decode c p = .ok (.astore_n 0, 1) := iq_dcd ((iq_b1n _ h hb).trans rfl)
set_option maxRecDepth 20000 in
theorem iq_o76 {c : ByteArray} {p : Nat} {b : UInt8} {r : List UInt8} (h : c.data.toList.drop p = b :: r) (hb : b.toNat = 76) : decode c p = .ok (.astore_n 1, 1) := iq_dcd ((iq_b1n _ h hb).trans rfl)
set_option maxRecDepth 20000 in
theorem iq_o77 {c : ByteArray} {p : Nat} {b : UInt8} {r : List UInt8} (h : c.data.toList.drop p = b :: r) (hb : b.toNat = 77) : decode c p = .ok (.astore_n 2, 1) := iq_dcd ((iq_b1n _ h hb).trans rfl)
set_option maxRecDepth 20000 in
theorem iq_o78 {c : ByteArray} {p : Nat} {b : UInt8} {r : List UInt8} (h : c.data.toList.drop p = b :: r) (hb : b.toNat = 78) : decode c p = .ok (.astore_n 3, 1) := iq_dcd ((iq_b1n _ h hb).trans rfl)
set_option maxRecDepth 20000 in
theorem iq_o2 {c : ByteArray} {p : Nat} {b : UInt8} {r : List UInt8} (h : c.data.toList.drop p = b :: r) (hb : b.toNat = 2) : decode c p = .ok (.iconst (-1), 1) := iq_dcd ((iq_b1n _ h hb).trans rfl)
set_option maxRecDepth 20000 in
theorem iq_o3 {c : ByteArray} {p : Nat} {b : UInt8} {r : List UInt8} (h : c.data.toList.drop p = b :: r) (hb : b.toNat = 3) : decode c p = .ok (.iconst (0), 1) := iq_dcd ((iq_b1n _ h hb).trans rfl)
set_option maxRecDepth 20000 in
theorem iq_o4 {c : ByteArray} {p : Nat} {b : UInt8} {r : List UInt8} (h : c.data.toList.drop p = b :: r) (hb : b.toNat = 4) : decode c p = .ok (.iconst (1), 1) := iq_dcd ((iq_b1n _ h hb).trans rfl)
set_option maxRecDepth 20000 in
theorem iq_o5 {c : ByteArray} {p : Nat} {b : UInt8} {r : List UInt8} (h : c.data.toList.drop p = b :: r) (hb : b.toNat = 5) : decode c p = .ok (.iconst (2), 1) := iq_dcd ((iq_b1n _ h hb).trans rfl)
set_option maxRecDepth 20000 in
theorem iq_o6 {c : ByteArray} {p : Nat} {b : UInt8} {r : List UInt8} (h : c.data.toList.drop p = b :: r) (hb : b.toNat = 6) : decode c p = .ok (.iconst (3), 1) := iq_dcd ((iq_b1n _ h hb).trans rfl)
set_option maxRecDepth 20000 in
theorem iq_o7 {c : ByteArray} {p : Nat} {b : UInt8} {r : List UInt8} (h : c.data.toList.drop p = b :: r) (hb : b.toNat = 7) : decode c p = .ok (.iconst (4), 1) := iq_dcd ((iq_b1n _ h hb).trans rfl)
set_option maxRecDepth 20000 in
theorem iq_o8 {c : ByteArray} {p : Nat} {b : UInt8} {r : List UInt8} (h : c.data.toList.drop p = b :: r) (hb : b.toNat = 8) : decode c p = .ok (.iconst (5), 1) := iq_dcd ((iq_b1n _ h hb).trans rfl)
set_option maxRecDepth 20000 in
theorem iq_o9 {c : ByteArray} {p : Nat} {b : UInt8} {r : List UInt8} (h : c.data.toList.drop p = b :: r) (hb : b.toNat = 9) : decode c p = .ok (.lconst 0, 1) := iq_dcd ((iq_b1n _ h hb).trans rfl)
set_option maxRecDepth 20000 in
theorem iq_o10 {c : ByteArray} {p : Nat} {b : UInt8} {r : List UInt8} (h : c.data.toList.drop p = b :: r) (hb : b.toNat = 10) : decode c p = .ok (.lconst 1, 1) := iq_dcd ((iq_b1n _ h hb).trans rfl)
set_option maxRecDepth 20000 in
theorem iq_o18 {c : ByteArray} {p : Nat} {b d : UInt8} {r : List UInt8} (h : c.data.toList.drop p = b :: d :: r) (hb : b.toNat = 18) : decode c p = .ok (.ldc d.toNat, 2) := iq_dcd ((iq_b1 _ h).trans (by rw [hb]; exact iq_b1 _ (iq_tl h)))
set_option maxRecDepth 20000 in
theorem iq_o21 {c : ByteArray} {p : Nat} {b d : UInt8} {r : List UInt8} (h : c.data.toList.drop p = b :: d :: r) (hb : b.toNat = 21) : decode c p = .ok (.iload d.toNat, 2) := iq_dcd ((iq_b1 _ h).trans (by rw [hb]; exact iq_b1 _ (iq_tl h)))
set_option maxRecDepth 20000 in
theorem iq_o22 {c : ByteArray} {p : Nat} {b d : UInt8} {r : List UInt8} (h : c.data.toList.drop p = b :: d :: r) (hb : b.toNat = 22) : decode c p = .ok (.lload d.toNat, 2) := iq_dcd ((iq_b1 _ h).trans (by rw [hb]; exact iq_b1 _ (iq_tl h)))
set_option maxRecDepth 20000 in
theorem iq_o25 {c : ByteArray} {p : Nat} {b d : UInt8} {r : List UInt8} (h : c.data.toList.drop p = b :: d :: r) (hb : b.toNat = 25) : decode c p = .ok (.aload d.toNat, 2) := iq_dcd ((iq_b1 _ h).trans (by rw [hb]; exact iq_b1 _ (iq_tl h)))
set_option maxRecDepth 20000 in
theorem iq_o54 {c : ByteArray} {p : Nat} {b d : UInt8} {r : List UInt8} (h : c.data.toList.drop p = b :: d :: r) (hb : b.toNat = 54) : decode c p = .ok (.istore d.toNat, 2) := iq_dcd ((iq_b1 _ h).trans (by rw [hb]; exact iq_b1 _ (iq_tl h)))
set_option maxRecDepth 20000 in
theorem iq_o55 {c : ByteArray} {p : Nat} {b d : UInt8} {r : List UInt8} (h : c.data.toList.drop p = b :: d :: r) (hb : b.toNat = 55) : decode c p = .ok (.lstore d.toNat, 2) := iq_dcd ((iq_b1 _ h).trans (by rw [hb]; exact iq_b1 _ (iq_tl h)))
set_option maxRecDepth 20000 in
theorem iq_o58 {c : ByteArray} {p : Nat} {b d : UInt8} {r : List UInt8} (h : c.data.toList.drop p = b :: d :: r) (hb : b.toNat = 58) : decode c p = .ok (.astore d.toNat, 2) := iq_dcd ((iq_b1 _ h).trans (by rw [hb]; exact iq_b1 _ (iq_tl h)))
set_option maxRecDepth 20000 in
theorem iq_o19 {c : ByteArray} {p : Nat} {b d e : UInt8} {r : List UInt8} (h : c.data.toList.drop p = b :: d :: e :: r) (hb : b.toNat = 19) : decode c p = .ok (.ldc_w (d.toNat * 256 + e.toNat), 3) := iq_dcd ((iq_b1 _ h).trans (by rw [hb]; exact iq_b2 _ (iq_tl h)))
set_option maxRecDepth 20000 in
theorem iq_o20 {c : ByteArray} {p : Nat} {b d e : UInt8} {r : List UInt8} (h : c.data.toList.drop p = b :: d :: e :: r) (hb : b.toNat = 20) : decode c p = .ok (.ldc2_w (d.toNat * 256 + e.toNat), 3) := iq_dcd ((iq_b1 _ h).trans (by rw [hb]; exact iq_b2 _ (iq_tl h)))
set_option maxRecDepth 20000 in
theorem iq_o180 {c : ByteArray} {p : Nat} {b d e : UInt8} {r : List UInt8} (h : c.data.toList.drop p = b :: d :: e :: r) (hb : b.toNat = 180) : decode c p = .ok (.getfield (d.toNat * 256 + e.toNat), 3) := iq_dcd ((iq_b1 _ h).trans (by rw [hb]; exact iq_b2 _ (iq_tl h)))
set_option maxRecDepth 20000 in
theorem iq_o181 {c : ByteArray} {p : Nat} {b d e : UInt8} {r : List UInt8} (h : c.data.toList.drop p = b :: d :: e :: r) (hb : b.toNat = 181) : decode c p = .ok (.putfield (d.toNat * 256 + e.toNat), 3) := iq_dcd ((iq_b1 _ h).trans (by rw [hb]; exact iq_b2 _ (iq_tl h)))
set_option maxRecDepth 20000 in
theorem iq_o182 {c : ByteArray} {p : Nat} {b d e : UInt8} {r : List UInt8} (h : c.data.toList.drop p = b :: d :: e :: r) (hb : b.toNat = 182) : decode c p = .ok (.invokevirtual (d.toNat * 256 + e.toNat), 3) := iq_dcd ((iq_b1 _ h).trans (by rw [hb]; exact iq_b2 _ (iq_tl h)))
set_option maxRecDepth 20000 in
theorem iq_o183 {c : ByteArray} {p : Nat} {b d e : UInt8} {r : List UInt8} (h : c.data.toList.drop p = b :: d :: e :: r) (hb : b.toNat = 183) : decode c p = .ok (.invokespecial (d.toNat * 256 + e.toNat), 3) := iq_dcd ((iq_b1 _ h).trans (by rw [hb]; exact iq_b2 _ (iq_tl h)))
set_option maxRecDepth 20000 in
theorem iq_o184 {c : ByteArray} {p : Nat} {b d e : UInt8} {r : List UInt8} (h : c.data.toList.drop p = b :: d :: e :: r) (hb : b.toNat = 184) : decode c p = .ok (.invokestatic (d.toNat * 256 + e.toNat), 3) := iq_dcd ((iq_b1 _ h).trans (by rw [hb]; exact iq_b2 _ (iq_tl h)))
set_option maxRecDepth 20000 in
theorem iq_o187 {c : ByteArray} {p : Nat} {b d e : UInt8} {r : List UInt8} (h : c.data.toList.drop p = b :: d :: e :: r) (hb : b.toNat = 187) : decode c p = .ok (.new (d.toNat * 256 + e.toNat), 3) := iq_dcd ((iq_b1 _ h).trans (by rw [hb]; exact iq_b2 _ (iq_tl h)))
set_option maxRecDepth 20000 in
theorem iq_o189 {c : ByteArray} {p : Nat} {b d e : UInt8} {r : List UInt8} (h : c.data.toList.drop p = b :: d :: e :: r) (hb : b.toNat = 189) : decode c p = .ok (.anewarray (d.toNat * 256 + e.toNat), 3) := iq_dcd ((iq_b1 _ h).trans (by rw [hb]; exact iq_b2 _ (iq_tl h)))
set_option maxRecDepth 20000 in
theorem iq_o17 {c : ByteArray} {p : Nat} {b d e : UInt8} {r : List UInt8} (h : c.data.toList.drop p = b :: d :: e :: r) (hb : b.toNat = 17) : decode c p = .ok (.sipush (Reader.signed 16 (d.toNat * 256 + e.toNat)), 3) := iq_dcd ((iq_b1 _ h).trans (by rw [hb]; exact iq_b2s _ (iq_tl h)))
set_option maxRecDepth 20000 in
theorem iq_o167 {c : ByteArray} {p : Nat} {b d e : UInt8} {r : List UInt8} (h : c.data.toList.drop p = b :: d :: e :: r) (hb : b.toNat = 167) : decode c p = .ok (.goto (Reader.signed 16 (d.toNat * 256 + e.toNat)), 3) := iq_dcd ((iq_b1 _ h).trans (by rw [hb]; exact iq_b2s _ (iq_tl h)))
set_option maxRecDepth 20000 in
theorem iq_o153 {c : ByteArray} {p : Nat} {b d e : UInt8} {r : List UInt8} (h : c.data.toList.drop p = b :: d :: e :: r) (hb : b.toNat = 153) : decode c p = .ok (.ifCond .eq (Reader.signed 16 (d.toNat * 256 + e.toNat)), 3) := iq_dcd ((iq_b1 _ h).trans (by rw [hb]; exact iq_b2s _ (iq_tl h)))
set_option maxRecDepth 20000 in
theorem iq_o154 {c : ByteArray} {p : Nat} {b d e : UInt8} {r : List UInt8} (h : c.data.toList.drop p = b :: d :: e :: r) (hb : b.toNat = 154) : decode c p = .ok (.ifCond .ne (Reader.signed 16 (d.toNat * 256 + e.toNat)), 3) := iq_dcd ((iq_b1 _ h).trans (by rw [hb]; exact iq_b2s _ (iq_tl h)))
set_option maxRecDepth 20000 in
theorem iq_o155 {c : ByteArray} {p : Nat} {b d e : UInt8} {r : List UInt8} (h : c.data.toList.drop p = b :: d :: e :: r) (hb : b.toNat = 155) : decode c p = .ok (.ifCond .lt (Reader.signed 16 (d.toNat * 256 + e.toNat)), 3) := iq_dcd ((iq_b1 _ h).trans (by rw [hb]; exact iq_b2s _ (iq_tl h)))
set_option maxRecDepth 20000 in
theorem iq_o156 {c : ByteArray} {p : Nat} {b d e : UInt8} {r : List UInt8} (h : c.data.toList.drop p = b :: d :: e :: r) (hb : b.toNat = 156) : decode c p = .ok (.ifCond .ge (Reader.signed 16 (d.toNat * 256 + e.toNat)), 3) := iq_dcd ((iq_b1 _ h).trans (by rw [hb]; exact iq_b2s _ (iq_tl h)))
set_option maxRecDepth 20000 in
theorem iq_o157 {c : ByteArray} {p : Nat} {b d e : UInt8} {r : List UInt8} (h : c.data.toList.drop p = b :: d :: e :: r) (hb : b.toNat = 157) : decode c p = .ok (.ifCond .gt (Reader.signed 16 (d.toNat * 256 + e.toNat)), 3) := iq_dcd ((iq_b1 _ h).trans (by rw [hb]; exact iq_b2s _ (iq_tl h)))
set_option maxRecDepth 20000 in
theorem iq_o158 {c : ByteArray} {p : Nat} {b d e : UInt8} {r : List UInt8} (h : c.data.toList.drop p = b :: d :: e :: r) (hb : b.toNat = 158) : decode c p = .ok (.ifCond .le (Reader.signed 16 (d.toNat * 256 + e.toNat)), 3) := iq_dcd ((iq_b1 _ h).trans (by rw [hb]; exact iq_b2s _ (iq_tl h)))
set_option maxRecDepth 20000 in
theorem iq_o159 {c : ByteArray} {p : Nat} {b d e : UInt8} {r : List UInt8} (h : c.data.toList.drop p = b :: d :: e :: r) (hb : b.toNat = 159) : decode c p = .ok (.if_icmp .eq (Reader.signed 16 (d.toNat * 256 + e.toNat)), 3) := iq_dcd ((iq_b1 _ h).trans (by rw [hb]; exact iq_b2s _ (iq_tl h)))
set_option maxRecDepth 20000 in
theorem iq_o160 {c : ByteArray} {p : Nat} {b d e : UInt8} {r : List UInt8} (h : c.data.toList.drop p = b :: d :: e :: r) (hb : b.toNat = 160) : decode c p = .ok (.if_icmp .ne (Reader.signed 16 (d.toNat * 256 + e.toNat)), 3) := iq_dcd ((iq_b1 _ h).trans (by rw [hb]; exact iq_b2s _ (iq_tl h)))
set_option maxRecDepth 20000 in
theorem iq_o161 {c : ByteArray} {p : Nat} {b d e : UInt8} {r : List UInt8} (h : c.data.toList.drop p = b :: d :: e :: r) (hb : b.toNat = 161) : decode c p = .ok (.if_icmp .lt (Reader.signed 16 (d.toNat * 256 + e.toNat)), 3) := iq_dcd ((iq_b1 _ h).trans (by rw [hb]; exact iq_b2s _ (iq_tl h)))
set_option maxRecDepth 20000 in
theorem iq_o162 {c : ByteArray} {p : Nat} {b d e : UInt8} {r : List UInt8} (h : c.data.toList.drop p = b :: d :: e :: r) (hb : b.toNat = 162) : decode c p = .ok (.if_icmp .ge (Reader.signed 16 (d.toNat * 256 + e.toNat)), 3) := iq_dcd ((iq_b1 _ h).trans (by rw [hb]; exact iq_b2s _ (iq_tl h)))
set_option maxRecDepth 20000 in
theorem iq_o163 {c : ByteArray} {p : Nat} {b d e : UInt8} {r : List UInt8} (h : c.data.toList.drop p = b :: d :: e :: r) (hb : b.toNat = 163) : decode c p = .ok (.if_icmp .gt (Reader.signed 16 (d.toNat * 256 + e.toNat)), 3) := iq_dcd ((iq_b1 _ h).trans (by rw [hb]; exact iq_b2s _ (iq_tl h)))
set_option maxRecDepth 20000 in
theorem iq_o164 {c : ByteArray} {p : Nat} {b d e : UInt8} {r : List UInt8} (h : c.data.toList.drop p = b :: d :: e :: r) (hb : b.toNat = 164) : decode c p = .ok (.if_icmp .le (Reader.signed 16 (d.toNat * 256 + e.toNat)), 3) := iq_dcd ((iq_b1 _ h).trans (by rw [hb]; exact iq_b2s _ (iq_tl h)))
set_option maxRecDepth 20000 in
theorem iq_o16 {c : ByteArray} {p : Nat} {b d : UInt8} {r : List UInt8} (h : c.data.toList.drop p = b :: d :: r) (hb : b.toNat = 16) : decode c p = .ok (.bipush (Reader.signed 8 d.toNat), 2) := iq_dcd ((iq_b1 _ h).trans (by rw [hb]; exact iq_b1s _ (iq_tl h)))
set_option maxRecDepth 20000 in
theorem iq_o132 {c : ByteArray} {p : Nat} {b d e : UInt8} {r : List UInt8} (h : c.data.toList.drop p = b :: d :: e :: r) (hb : b.toNat = 132) : decode c p = .ok (.iinc d.toNat (Reader.signed 8 e.toNat), 3) := iq_dcd ((iq_b1 _ h).trans (by rw [hb]; exact (iq_b1 _ (iq_tl h)).trans (iq_b1s _ (iq_tl (iq_tl h)))))
def iq_1 (k : Nat) (bs : List UInt8) : Bool := match bs with
  | b :: _ => Nat.beq b.toNat k
  | [] => false
def iq_2 (k n : Nat) (bs : List UInt8) : Bool := match bs with
  | b :: d :: _ => Nat.beq b.toNat k && Nat.beq d.toNat n
  | _ => false
def iq_3 (k n : Nat) (bs : List UInt8) : Bool := match bs with
  | b :: d :: e :: _ => Nat.beq b.toNat k && Nat.beq (d.toNat * 256 + e.toNat) n
  | _ => false
def iq_4 (k : Nat) (z : Int) (bs : List UInt8) : Bool := match bs with
  | b :: d :: e :: _ => Nat.beq b.toNat k && decide (Reader.signed 16 (d.toNat * 256 + e.toNat) = z)
  | _ => false
def iq_5 (k : Nat) (z : Int) (bs : List UInt8) : Bool := match bs with
  | b :: d :: _ => Nat.beq b.toNat k && decide (Reader.signed 8 d.toNat = z)
  | _ => false
def iq_6 (k n : Nat) (z : Int) (bs : List UInt8) : Bool := match bs with
  | b :: d :: e :: _ => Nat.beq b.toNat k && (Nat.beq d.toNat n && decide (Reader.signed 8 e.toNat = z))
  | _ => false
theorem iq_1e {k : Nat} {bs : List UInt8} (h : iq_1 k bs = true) : ∃ b r, bs = b :: r ∧ b.toNat = k := by
  cases bs with
  | nil => cases h
  | cons b r => exact ⟨b, r, rfl, Nat.eq_of_beq_eq_true h⟩
theorem iq_2e {k n : Nat} {bs : List UInt8} (h : iq_2 k n bs = true) : ∃ b d r, bs = b :: d :: r ∧ b.toNat = k ∧ d.toNat = n := by
  cases bs with
  | nil => cases h
  | cons b r => cases r with
    | nil => cases h
    | cons d r => exact ⟨b, d, r, rfl, Nat.eq_of_beq_eq_true (Bool.and_eq_true_iff.mp h).1, Nat.eq_of_beq_eq_true (Bool.and_eq_true_iff.mp h).2⟩
theorem iq_3e {k n : Nat} {bs : List UInt8} (h : iq_3 k n bs = true) : ∃ b d e r, bs = b :: d :: e :: r ∧ b.toNat = k ∧ d.toNat * 256 + e.toNat = n := by
  cases bs with
  | nil => cases h
  | cons b r => cases r with
    | nil => cases h
    | cons d r => cases r with
      | nil => cases h
      | cons e r => exact ⟨b, d, e, r, rfl, Nat.eq_of_beq_eq_true (Bool.and_eq_true_iff.mp h).1, Nat.eq_of_beq_eq_true (Bool.and_eq_true_iff.mp h).2⟩
theorem iq_4e {k : Nat} {z : Int} {bs : List UInt8} (h : iq_4 k z bs = true) : ∃ b d e r, bs = b :: d :: e :: r ∧ b.toNat = k ∧ Reader.signed 16 (d.toNat * 256 + e.toNat) = z := by
  cases bs with
  | nil => cases h
  | cons b r => cases r with
    | nil => cases h
    | cons d r => cases r with
      | nil => cases h
      | cons e r => exact ⟨b, d, e, r, rfl, Nat.eq_of_beq_eq_true (Bool.and_eq_true_iff.mp h).1, of_decide_eq_true (Bool.and_eq_true_iff.mp h).2⟩
theorem iq_5e {k : Nat} {z : Int} {bs : List UInt8} (h : iq_5 k z bs = true) : ∃ b d r, bs = b :: d :: r ∧ b.toNat = k ∧ Reader.signed 8 d.toNat = z := by
  cases bs with
  | nil => cases h
  | cons b r => cases r with
    | nil => cases h
    | cons d r => exact ⟨b, d, r, rfl, Nat.eq_of_beq_eq_true (Bool.and_eq_true_iff.mp h).1, of_decide_eq_true (Bool.and_eq_true_iff.mp h).2⟩
theorem iq_6e {k n : Nat} {z : Int} {bs : List UInt8} (h : iq_6 k n z bs = true) : ∃ b d e r, bs = b :: d :: e :: r ∧ b.toNat = k ∧ d.toNat = n ∧ Reader.signed 8 e.toNat = z := by
  cases bs with
  | nil => cases h
  | cons b r => cases r with
    | nil => cases h
    | cons d r => cases r with
      | nil => cases h
      | cons e r => exact ⟨b, d, e, r, rfl, Nat.eq_of_beq_eq_true (Bool.and_eq_true_iff.mp h).1, Nat.eq_of_beq_eq_true (Bool.and_eq_true_iff.mp (Bool.and_eq_true_iff.mp h).2).1, of_decide_eq_true (Bool.and_eq_true_iff.mp (Bool.and_eq_true_iff.mp h).2).2⟩
def iq_cn : ClassFile.Cond → Nat
  | .eq => 0
  | .ne => 1
  | .lt => 2
  | .ge => 3
  | .gt => 4
  | .le => 5
/-- the bytes are this instruction, of this length -/
def iq_m (i : Instr) (len : Nat) (bs : List UInt8) : Bool := match i with
  | .iaload => Nat.beq len 1 && iq_1 46 bs
  | .laload => Nat.beq len 1 && iq_1 47 bs
  | .aaload => Nat.beq len 1 && iq_1 50 bs
  | .baload => Nat.beq len 1 && iq_1 51 bs
  | .iastore => Nat.beq len 1 && iq_1 79 bs
  | .lastore => Nat.beq len 1 && iq_1 80 bs
  | .aastore => Nat.beq len 1 && iq_1 83 bs
  | .bastore => Nat.beq len 1 && iq_1 84 bs
  | .pop => Nat.beq len 1 && iq_1 87 bs
  | .pop2 => Nat.beq len 1 && iq_1 88 bs
  | .dup => Nat.beq len 1 && iq_1 89 bs
  | .dup2 => Nat.beq len 1 && iq_1 92 bs
  | .iadd => Nat.beq len 1 && iq_1 96 bs
  | .ladd => Nat.beq len 1 && iq_1 97 bs
  | .isub => Nat.beq len 1 && iq_1 100 bs
  | .lsub => Nat.beq len 1 && iq_1 101 bs
  | .imul => Nat.beq len 1 && iq_1 104 bs
  | .lmul => Nat.beq len 1 && iq_1 105 bs
  | .idiv => Nat.beq len 1 && iq_1 108 bs
  | .ldiv => Nat.beq len 1 && iq_1 109 bs
  | .irem => Nat.beq len 1 && iq_1 112 bs
  | .lrem => Nat.beq len 1 && iq_1 113 bs
  | .ineg => Nat.beq len 1 && iq_1 116 bs
  | .lneg => Nat.beq len 1 && iq_1 117 bs
  | .ishl => Nat.beq len 1 && iq_1 120 bs
  | .lshl => Nat.beq len 1 && iq_1 121 bs
  | .ishr => Nat.beq len 1 && iq_1 122 bs
  | .lshr => Nat.beq len 1 && iq_1 123 bs
  | .iushr => Nat.beq len 1 && iq_1 124 bs
  | .lushr => Nat.beq len 1 && iq_1 125 bs
  | .iand => Nat.beq len 1 && iq_1 126 bs
  | .land => Nat.beq len 1 && iq_1 127 bs
  | .ior => Nat.beq len 1 && iq_1 128 bs
  | .lor => Nat.beq len 1 && iq_1 129 bs
  | .ixor => Nat.beq len 1 && iq_1 130 bs
  | .lxor => Nat.beq len 1 && iq_1 131 bs
  | .i2l => Nat.beq len 1 && iq_1 133 bs
  | .l2i => Nat.beq len 1 && iq_1 136 bs
  | .i2b => Nat.beq len 1 && iq_1 145 bs
  | .i2c => Nat.beq len 1 && iq_1 146 bs
  | .i2s => Nat.beq len 1 && iq_1 147 bs
  | .lcmp => Nat.beq len 1 && iq_1 148 bs
  | .ireturn => Nat.beq len 1 && iq_1 172 bs
  | .lreturn => Nat.beq len 1 && iq_1 173 bs
  | .areturn => Nat.beq len 1 && iq_1 176 bs
  | .return_ => Nat.beq len 1 && iq_1 177 bs
  | .arraylength => Nat.beq len 1 && iq_1 190 bs
  | .iload_n n => Nat.beq len 1 && iq_1 (26 + n.val) bs
  | .lload_n n => Nat.beq len 1 && iq_1 (30 + n.val) bs
  | .aload_n n => Nat.beq len 1 && iq_1 (42 + n.val) bs
  | .istore_n n => Nat.beq len 1 && iq_1 (59 + n.val) bs
  | .lstore_n n => Nat.beq len 1 && iq_1 (63 + n.val) bs
  | .astore_n n => Nat.beq len 1 && iq_1 (75 + n.val) bs
  | .iconst n => Nat.beq len 1 && (decide (-1 ≤ n ∧ n ≤ 5) && iq_1 (n + 3).toNat bs)
  | .lconst n => Nat.beq len 1 && iq_1 (9 + n.val) bs
  | .ldc n => Nat.beq len 2 && iq_2 18 n bs
  | .iload n => Nat.beq len 2 && iq_2 21 n bs
  | .lload n => Nat.beq len 2 && iq_2 22 n bs
  | .aload n => Nat.beq len 2 && iq_2 25 n bs
  | .istore n => Nat.beq len 2 && iq_2 54 n bs
  | .lstore n => Nat.beq len 2 && iq_2 55 n bs
  | .astore n => Nat.beq len 2 && iq_2 58 n bs
  | .ldc_w n => Nat.beq len 3 && iq_3 19 n bs
  | .ldc2_w n => Nat.beq len 3 && iq_3 20 n bs
  | .getfield n => Nat.beq len 3 && iq_3 180 n bs
  | .putfield n => Nat.beq len 3 && iq_3 181 n bs
  | .invokevirtual n => Nat.beq len 3 && iq_3 182 n bs
  | .invokespecial n => Nat.beq len 3 && iq_3 183 n bs
  | .invokestatic n => Nat.beq len 3 && iq_3 184 n bs
  | .new n => Nat.beq len 3 && iq_3 187 n bs
  | .anewarray n => Nat.beq len 3 && iq_3 189 n bs
  | .sipush z => Nat.beq len 3 && iq_4 17 z bs
  | .goto z => Nat.beq len 3 && iq_4 167 z bs
  | .ifCond c z => Nat.beq len 3 && iq_4 (153 + iq_cn c) z bs
  | .if_icmp c z => Nat.beq len 3 && iq_4 (159 + iq_cn c) z bs
  | .bipush z => Nat.beq len 2 && iq_5 16 z bs
  | .iinc n z => Nat.beq len 3 && iq_6 132 n z bs
  | _ => false
theorem iq_an {a b : Bool} (h : (a && b) = true) : a = true ∧ b = true := Bool.and_eq_true_iff.mp h
theorem iq_ln {len k : Nat} {X : Bool} (h : (Nat.beq len k && X) = true) : len = k ∧ X = true := ⟨Nat.eq_of_beq_eq_true (iq_an h).1, (iq_an h).2⟩
theorem iq_m_ok {c : ByteArray} {p len : Nat} {i : Instr} {bs : List UInt8} (hd : c.data.toList.drop p = bs) (h : iq_m i len bs = true) : decode c p = .ok (i, len) := by
  cases i with
  | iaload =>
    obtain ⟨rfl, h⟩ := iq_ln h
    obtain ⟨b, r, rfl, hb⟩ := iq_1e h
    exact iq_o46 hd hb
  | laload =>
    obtain ⟨rfl, h⟩ := iq_ln h
    obtain ⟨b, r, rfl, hb⟩ := iq_1e h
    exact iq_o47 hd hb
  | aaload =>
    obtain ⟨rfl, h⟩ := iq_ln h
    obtain ⟨b, r, rfl, hb⟩ := iq_1e h
    exact iq_o50 hd hb
  | baload =>
    obtain ⟨rfl, h⟩ := iq_ln h
    obtain ⟨b, r, rfl, hb⟩ := iq_1e h
    exact iq_o51 hd hb
  | iastore =>
    obtain ⟨rfl, h⟩ := iq_ln h
    obtain ⟨b, r, rfl, hb⟩ := iq_1e h
    exact iq_o79 hd hb
  | lastore =>
    obtain ⟨rfl, h⟩ := iq_ln h
    obtain ⟨b, r, rfl, hb⟩ := iq_1e h
    exact iq_o80 hd hb
  | aastore =>
    obtain ⟨rfl, h⟩ := iq_ln h
    obtain ⟨b, r, rfl, hb⟩ := iq_1e h
    exact iq_o83 hd hb
  | bastore =>
    obtain ⟨rfl, h⟩ := iq_ln h
    obtain ⟨b, r, rfl, hb⟩ := iq_1e h
    exact iq_o84 hd hb
  | pop =>
    obtain ⟨rfl, h⟩ := iq_ln h
    obtain ⟨b, r, rfl, hb⟩ := iq_1e h
    exact iq_o87 hd hb
  | pop2 =>
    obtain ⟨rfl, h⟩ := iq_ln h
    obtain ⟨b, r, rfl, hb⟩ := iq_1e h
    exact iq_o88 hd hb
  | dup =>
    obtain ⟨rfl, h⟩ := iq_ln h
    obtain ⟨b, r, rfl, hb⟩ := iq_1e h
    exact iq_o89 hd hb
  | dup2 =>
    obtain ⟨rfl, h⟩ := iq_ln h
    obtain ⟨b, r, rfl, hb⟩ := iq_1e h
    exact iq_o92 hd hb
  | iadd =>
    obtain ⟨rfl, h⟩ := iq_ln h
    obtain ⟨b, r, rfl, hb⟩ := iq_1e h
    exact iq_o96 hd hb
  | ladd =>
    obtain ⟨rfl, h⟩ := iq_ln h
    obtain ⟨b, r, rfl, hb⟩ := iq_1e h
    exact iq_o97 hd hb
  | isub =>
    obtain ⟨rfl, h⟩ := iq_ln h
    obtain ⟨b, r, rfl, hb⟩ := iq_1e h
    exact iq_o100 hd hb
  | lsub =>
    obtain ⟨rfl, h⟩ := iq_ln h
    obtain ⟨b, r, rfl, hb⟩ := iq_1e h
    exact iq_o101 hd hb
  | imul =>
    obtain ⟨rfl, h⟩ := iq_ln h
    obtain ⟨b, r, rfl, hb⟩ := iq_1e h
    exact iq_o104 hd hb
  | lmul =>
    obtain ⟨rfl, h⟩ := iq_ln h
    obtain ⟨b, r, rfl, hb⟩ := iq_1e h
    exact iq_o105 hd hb
  | idiv =>
    obtain ⟨rfl, h⟩ := iq_ln h
    obtain ⟨b, r, rfl, hb⟩ := iq_1e h
    exact iq_o108 hd hb
  | ldiv =>
    obtain ⟨rfl, h⟩ := iq_ln h
    obtain ⟨b, r, rfl, hb⟩ := iq_1e h
    exact iq_o109 hd hb
  | irem =>
    obtain ⟨rfl, h⟩ := iq_ln h
    obtain ⟨b, r, rfl, hb⟩ := iq_1e h
    exact iq_o112 hd hb
  | lrem =>
    obtain ⟨rfl, h⟩ := iq_ln h
    obtain ⟨b, r, rfl, hb⟩ := iq_1e h
    exact iq_o113 hd hb
  | ineg =>
    obtain ⟨rfl, h⟩ := iq_ln h
    obtain ⟨b, r, rfl, hb⟩ := iq_1e h
    exact iq_o116 hd hb
  | lneg =>
    obtain ⟨rfl, h⟩ := iq_ln h
    obtain ⟨b, r, rfl, hb⟩ := iq_1e h
    exact iq_o117 hd hb
  | ishl =>
    obtain ⟨rfl, h⟩ := iq_ln h
    obtain ⟨b, r, rfl, hb⟩ := iq_1e h
    exact iq_o120 hd hb
  | lshl =>
    obtain ⟨rfl, h⟩ := iq_ln h
    obtain ⟨b, r, rfl, hb⟩ := iq_1e h
    exact iq_o121 hd hb
  | ishr =>
    obtain ⟨rfl, h⟩ := iq_ln h
    obtain ⟨b, r, rfl, hb⟩ := iq_1e h
    exact iq_o122 hd hb
  | lshr =>
    obtain ⟨rfl, h⟩ := iq_ln h
    obtain ⟨b, r, rfl, hb⟩ := iq_1e h
    exact iq_o123 hd hb
  | iushr =>
    obtain ⟨rfl, h⟩ := iq_ln h
    obtain ⟨b, r, rfl, hb⟩ := iq_1e h
    exact iq_o124 hd hb
  | lushr =>
    obtain ⟨rfl, h⟩ := iq_ln h
    obtain ⟨b, r, rfl, hb⟩ := iq_1e h
    exact iq_o125 hd hb
  | iand =>
    obtain ⟨rfl, h⟩ := iq_ln h
    obtain ⟨b, r, rfl, hb⟩ := iq_1e h
    exact iq_o126 hd hb
  | land =>
    obtain ⟨rfl, h⟩ := iq_ln h
    obtain ⟨b, r, rfl, hb⟩ := iq_1e h
    exact iq_o127 hd hb
  | ior =>
    obtain ⟨rfl, h⟩ := iq_ln h
    obtain ⟨b, r, rfl, hb⟩ := iq_1e h
    exact iq_o128 hd hb
  | lor =>
    obtain ⟨rfl, h⟩ := iq_ln h
    obtain ⟨b, r, rfl, hb⟩ := iq_1e h
    exact iq_o129 hd hb
  | ixor =>
    obtain ⟨rfl, h⟩ := iq_ln h
    obtain ⟨b, r, rfl, hb⟩ := iq_1e h
    exact iq_o130 hd hb
  | lxor =>
    obtain ⟨rfl, h⟩ := iq_ln h
    obtain ⟨b, r, rfl, hb⟩ := iq_1e h
    exact iq_o131 hd hb
  | i2l =>
    obtain ⟨rfl, h⟩ := iq_ln h
    obtain ⟨b, r, rfl, hb⟩ := iq_1e h
    exact iq_o133 hd hb
  | l2i =>
    obtain ⟨rfl, h⟩ := iq_ln h
    obtain ⟨b, r, rfl, hb⟩ := iq_1e h
    exact iq_o136 hd hb
  | i2b =>
    obtain ⟨rfl, h⟩ := iq_ln h
    obtain ⟨b, r, rfl, hb⟩ := iq_1e h
    exact iq_o145 hd hb
  | i2c =>
    obtain ⟨rfl, h⟩ := iq_ln h
    obtain ⟨b, r, rfl, hb⟩ := iq_1e h
    exact iq_o146 hd hb
  | i2s =>
    obtain ⟨rfl, h⟩ := iq_ln h
    obtain ⟨b, r, rfl, hb⟩ := iq_1e h
    exact iq_o147 hd hb
  | lcmp =>
    obtain ⟨rfl, h⟩ := iq_ln h
    obtain ⟨b, r, rfl, hb⟩ := iq_1e h
    exact iq_o148 hd hb
  | ireturn =>
    obtain ⟨rfl, h⟩ := iq_ln h
    obtain ⟨b, r, rfl, hb⟩ := iq_1e h
    exact iq_o172 hd hb
  | lreturn =>
    obtain ⟨rfl, h⟩ := iq_ln h
    obtain ⟨b, r, rfl, hb⟩ := iq_1e h
    exact iq_o173 hd hb
  | areturn =>
    obtain ⟨rfl, h⟩ := iq_ln h
    obtain ⟨b, r, rfl, hb⟩ := iq_1e h
    exact iq_o176 hd hb
  | return_ =>
    obtain ⟨rfl, h⟩ := iq_ln h
    obtain ⟨b, r, rfl, hb⟩ := iq_1e h
    exact iq_o177 hd hb
  | arraylength =>
    obtain ⟨rfl, h⟩ := iq_ln h
    obtain ⟨b, r, rfl, hb⟩ := iq_1e h
    exact iq_o190 hd hb
  | iload_n n =>
    obtain ⟨rfl, h⟩ := iq_ln h
    obtain ⟨b, r, rfl, hb⟩ := iq_1e h
    obtain ⟨n, hn⟩ := n
    have hc : n = 0 ∨ n = 1 ∨ n = 2 ∨ n = 3 := by omega
    rcases hc with rfl | rfl | rfl | rfl
    · exact iq_o26 hd hb
    · exact iq_o27 hd hb
    · exact iq_o28 hd hb
    · exact iq_o29 hd hb
  | lload_n n =>
    obtain ⟨rfl, h⟩ := iq_ln h
    obtain ⟨b, r, rfl, hb⟩ := iq_1e h
    obtain ⟨n, hn⟩ := n
    have hc : n = 0 ∨ n = 1 ∨ n = 2 ∨ n = 3 := by omega
    rcases hc with rfl | rfl | rfl | rfl
    · exact iq_o30 hd hb
    · exact iq_o31 hd hb
    · exact iq_o32 hd hb
    · exact iq_o33 hd hb
  | aload_n n =>
    obtain ⟨rfl, h⟩ := iq_ln h
    obtain ⟨b, r, rfl, hb⟩ := iq_1e h
    obtain ⟨n, hn⟩ := n
    have hc : n = 0 ∨ n = 1 ∨ n = 2 ∨ n = 3 := by omega
    rcases hc with rfl | rfl | rfl | rfl
    · exact iq_o42 hd hb
    · exact iq_o43 hd hb
    · exact iq_o44 hd hb
    · exact iq_o45 hd hb
  | istore_n n =>
    obtain ⟨rfl, h⟩ := iq_ln h
    obtain ⟨b, r, rfl, hb⟩ := iq_1e h
    obtain ⟨n, hn⟩ := n
    have hc : n = 0 ∨ n = 1 ∨ n = 2 ∨ n = 3 := by omega
    rcases hc with rfl | rfl | rfl | rfl
    · exact iq_o59 hd hb
    · exact iq_o60 hd hb
    · exact iq_o61 hd hb
    · exact iq_o62 hd hb
  | lstore_n n =>
    obtain ⟨rfl, h⟩ := iq_ln h
    obtain ⟨b, r, rfl, hb⟩ := iq_1e h
    obtain ⟨n, hn⟩ := n
    have hc : n = 0 ∨ n = 1 ∨ n = 2 ∨ n = 3 := by omega
    rcases hc with rfl | rfl | rfl | rfl
    · exact iq_o63 hd hb
    · exact iq_o64 hd hb
    · exact iq_o65 hd hb
    · exact iq_o66 hd hb
  | astore_n n =>
    obtain ⟨rfl, h⟩ := iq_ln h
    obtain ⟨b, r, rfl, hb⟩ := iq_1e h
    obtain ⟨n, hn⟩ := n
    have hc : n = 0 ∨ n = 1 ∨ n = 2 ∨ n = 3 := by omega
    rcases hc with rfl | rfl | rfl | rfl
    · exact iq_o75 hd hb
    · exact iq_o76 hd hb
    · exact iq_o77 hd hb
    · exact iq_o78 hd hb
  | lconst n =>
    obtain ⟨rfl, h⟩ := iq_ln h
    obtain ⟨b, r, rfl, hb⟩ := iq_1e h
    obtain ⟨n, hn⟩ := n
    have hc : n = 0 ∨ n = 1 := by omega
    rcases hc with rfl | rfl
    · exact iq_o9 hd hb
    · exact iq_o10 hd hb
  | iconst n =>
    obtain ⟨rfl, h⟩ := iq_ln h
    obtain ⟨hn, h⟩ := iq_an h
    have hn := of_decide_eq_true hn
    obtain ⟨b, r, rfl, hb⟩ := iq_1e h
    have h7 : n = -1 ∨ n = 0 ∨ n = 1 ∨ n = 2 ∨ n = 3 ∨ n = 4 ∨ n = 5 := by omega
    rcases h7 with rfl | rfl | rfl | rfl | rfl | rfl | rfl
    · exact iq_o2 hd (hb.trans (by decide))
    · exact iq_o3 hd (hb.trans (by decide))
    · exact iq_o4 hd (hb.trans (by decide))
    · exact iq_o5 hd (hb.trans (by decide))
    · exact iq_o6 hd (hb.trans (by decide))
    · exact iq_o7 hd (hb.trans (by decide))
    · exact iq_o8 hd (hb.trans (by decide))
  | ldc n =>
    obtain ⟨rfl, h⟩ := iq_ln h
    obtain ⟨b, d, r, rfl, hb, rfl⟩ := iq_2e h
    exact iq_o18 hd hb
  | iload n =>
    obtain ⟨rfl, h⟩ := iq_ln h
    obtain ⟨b, d, r, rfl, hb, rfl⟩ := iq_2e h
    exact iq_o21 hd hb
  | lload n =>
    obtain ⟨rfl, h⟩ := iq_ln h
    obtain ⟨b, d, r, rfl, hb, rfl⟩ := iq_2e h
    exact iq_o22 hd hb
  | aload n =>
    obtain ⟨rfl, h⟩ := iq_ln h
    obtain ⟨b, d, r, rfl, hb, rfl⟩ := iq_2e h
    exact iq_o25 hd hb
  | istore n =>
    obtain ⟨rfl, h⟩ := iq_ln h
    obtain ⟨b, d, r, rfl, hb, rfl⟩ := iq_2e h
    exact iq_o54 hd hb
  | lstore n =>
    obtain ⟨rfl, h⟩ := iq_ln h
    obtain ⟨b, d, r, rfl, hb, rfl⟩ := iq_2e h
    exact iq_o55 hd hb
  | astore n =>
    obtain ⟨rfl, h⟩ := iq_ln h
    obtain ⟨b, d, r, rfl, hb, rfl⟩ := iq_2e h
    exact iq_o58 hd hb
  | ldc_w n =>
    obtain ⟨rfl, h⟩ := iq_ln h
    obtain ⟨b, d, e, r, rfl, hb, rfl⟩ := iq_3e h
    exact iq_o19 hd hb
  | ldc2_w n =>
    obtain ⟨rfl, h⟩ := iq_ln h
    obtain ⟨b, d, e, r, rfl, hb, rfl⟩ := iq_3e h
    exact iq_o20 hd hb
  | getfield n =>
    obtain ⟨rfl, h⟩ := iq_ln h
    obtain ⟨b, d, e, r, rfl, hb, rfl⟩ := iq_3e h
    exact iq_o180 hd hb
  | putfield n =>
    obtain ⟨rfl, h⟩ := iq_ln h
    obtain ⟨b, d, e, r, rfl, hb, rfl⟩ := iq_3e h
    exact iq_o181 hd hb
  | invokevirtual n =>
    obtain ⟨rfl, h⟩ := iq_ln h
    obtain ⟨b, d, e, r, rfl, hb, rfl⟩ := iq_3e h
    exact iq_o182 hd hb
  | invokespecial n =>
    obtain ⟨rfl, h⟩ := iq_ln h
    obtain ⟨b, d, e, r, rfl, hb, rfl⟩ := iq_3e h
    exact iq_o183 hd hb
  | invokestatic n =>
    obtain ⟨rfl, h⟩ := iq_ln h
    obtain ⟨b, d, e, r, rfl, hb, rfl⟩ := iq_3e h
    exact iq_o184 hd hb
  | new n =>
    obtain ⟨rfl, h⟩ := iq_ln h
    obtain ⟨b, d, e, r, rfl, hb, rfl⟩ := iq_3e h
    exact iq_o187 hd hb
  | anewarray n =>
    obtain ⟨rfl, h⟩ := iq_ln h
    obtain ⟨b, d, e, r, rfl, hb, rfl⟩ := iq_3e h
    exact iq_o189 hd hb
  | sipush z =>
    obtain ⟨rfl, h⟩ := iq_ln h
    obtain ⟨b, d, e, r, rfl, hb, rfl⟩ := iq_4e h
    exact iq_o17 hd hb
  | goto z =>
    obtain ⟨rfl, h⟩ := iq_ln h
    obtain ⟨b, d, e, r, rfl, hb, rfl⟩ := iq_4e h
    exact iq_o167 hd hb
  | ifCond c z =>
    obtain ⟨rfl, h⟩ := iq_ln h
    obtain ⟨b, d, e, r, rfl, hb, rfl⟩ := iq_4e h
    cases c with
    | eq => exact iq_o153 hd (hb.trans (by decide))
    | ne => exact iq_o154 hd (hb.trans (by decide))
    | lt => exact iq_o155 hd (hb.trans (by decide))
    | ge => exact iq_o156 hd (hb.trans (by decide))
    | gt => exact iq_o157 hd (hb.trans (by decide))
    | le => exact iq_o158 hd (hb.trans (by decide))
  | if_icmp c z =>
    obtain ⟨rfl, h⟩ := iq_ln h
    obtain ⟨b, d, e, r, rfl, hb, rfl⟩ := iq_4e h
    cases c with
    | eq => exact iq_o159 hd (hb.trans (by decide))
    | ne => exact iq_o160 hd (hb.trans (by decide))
    | lt => exact iq_o161 hd (hb.trans (by decide))
    | ge => exact iq_o162 hd (hb.trans (by decide))
    | gt => exact iq_o163 hd (hb.trans (by decide))
    | le => exact iq_o164 hd (hb.trans (by decide))
  | bipush z =>
    obtain ⟨rfl, h⟩ := iq_ln h
    obtain ⟨b, d, r, rfl, hb, rfl⟩ := iq_5e h
    exact iq_o16 hd hb
  | iinc n z =>
    obtain ⟨rfl, h⟩ := iq_ln h
    obtain ⟨b, d, e, r, rfl, hb, rfl, rfl⟩ := iq_6e h
    exact iq_o132 hd hb
  | _ => exact absurd h Bool.false_ne_true
def iq_par : List (List Nat) := [[0, 1, 2, 4, 2, 2, 1, 2, 1, 2, 0, 0, 0, 1, 3, 2], [3, 2, 3, 2, 4, 0, 4, 0, 1, 1, 1, 0, 0, 0, 1, 1], [1, 1, 2, 4, 2, 3, 0, 3, 3, 3, 3, 0, 3, 3, 1, 3], [2, 1, 4, 3, 3, 3, 0, 1, 0, 0, 0, 0, 0, 2, 2, 4], [0, 1, 3, 2, 2, 0, 1, 2, 1, 2, 0, 4, 4, 0, 1, 1], [1, 0, 0, 0, 1, 0, 0, 0, 0, 1, 1, 1, 0, 4, 1, 1], [2, 2, 1, 0, 1, 0, 1, 0, 3, 1, 2, 1, 0, 0, 3, 1], [5, 2, 4, 2, 0, 1, 2, 5, 1, 0, 0, 0, 0, 1, 1, 2], [3, 3, 2, 3, 2, 2, 0, 2, 2, 2, 3, 2, 1, 1, 2, 1], [1, 3, 2, 2, 2, 1, 4, 1, 0, 1, 3, 2, 1, 0, 3, 0], [0, 2, 0, 2, 3, 0, 3, 1, 1, 3, 1, 0, 0, 0, 1, 1], [0, 0, 0, 0, 0, 0, 3, 3, 3, 3, 4, 2, 4, 1, 0, 7], [8, 1, 1, 1, 1, 2, 1, 3, 3, 3, 1, 5, 2, 3, 1, 4], [2, 2, 2, 3, 2, 0, 0, 2, 2, 4, 1, 0, 0, 2, 0, 0], [1, 2, 1, 5, 1, 0, 0, 0, 1, 0, 0, 0, 2, 3, 3, 2], [3, 2, 2, 2, 1, 0, 0, 4, 2, 2, 2, 0, 2, 2, 3, 1], [2, 1, 2, 1, 0, 1, 0, 1, 0, 2, 2, 0, 1, 2, 1, 3], [3, 1, 2, 2, 2, 0, 1, 1, 3, 0, 0, 0, 0, 4, 0, 4], [1, 0, 2, 2, 2, 1, 2]]
def iq_pg (a : Nat) : Nat := (iq_par.getD (a / 16) []).getD (a % 16) 0
def iq_ds : List (String × Nat) := [("()V", 0), ("(LCommonDenominator$Square;)Z", 1), ("(LCommonDenominator$Square;I)V", 2), ("(LCommonDenominator$Square;III)I", 4), ("(II)J", 2), ("(II)I", 2), ("(J)Z", 1), ("(I)J", 1), ("()Z", 0), ("(I)Z", 1), ("(III)I", 3), ("(IILCommonDenominator$Value;)V", 3), ("(LCommonDenominator$Field;LCommonDenominator$Value;LCommonDenominator$Value;)Z", 3), ("(LCommonDenominator$Field;LCommonDenominator$Value;)Z", 2), ("(LCommonDenominator$Field;LCommonDenominator$Value;LCommonDenominator$Value;I)V", 4), ("(LCommonDenominator$Field;[III)V", 4), ("(LCommonDenominator$Field;)I", 1), ("(LCommonDenominator$Field;)V", 1), ("(I)I", 1), ("(LCommonDenominator$Square;)V", 1), ("(LCommonDenominator$Square;LCommonDenominator$Value;)Z", 2), ("(LCommonDenominator$Square;JJJ)J", 4), ("(III)Z", 3), ("(JJJ)Z", 3), ("(JJJ)J", 3), ("(III)V", 3), ("()I", 0), ("(JJJ)V", 3), ("(JJJ)I", 3), ("(LCommonDenominator$Value;)I", 1), ("(LCommonDenominator$Value;JJ)I", 3), ("(LCommonDenominator$Value;LCommonDenominator$Value;)I", 2), ("(LCommonDenominator$Value;LCommonDenominator$Value;ILCommonDenominator$Value;)V", 4), ("(LCommonDenominator$Value;LCommonDenominator$Value;LCommonDenominator$Value;)V", 3), ("(LCommonDenominator$Square;LCommonDenominator$Value;LCommonDenominator$Value;)Z", 3), ("(I)LCommonDenominator$Stand;", 1), ("()LCommonDenominator$Stand;", 0), ("(II)Z", 2), ("(IJJJ)V", 4), ("(IIZ)V", 3), ("(JJ)J", 2), ("(IJ)J", 2), ("(LCommonDenominator$Value;I)J", 2), ("(LCommonDenominator$Field;[LCommonDenominator$Value;LCommonDenominator$Word;LCommonDenominator$Course;)V", 4), ("(I)V", 1), ("(C)Z", 1), ("(JJJJ)V", 4), ("(LCommonDenominator$Value;)V", 1), ("([II)V", 2), ("(J)V", 1), ("(LCommonDenominator$Word;)V", 1), ("(IIIII)I", 5), ("(IJ)I", 2), ("(IIII)I", 4), ("(III)J", 3), ("(IZI)I", 3), ("(ZI)J", 2), ("(ZI)I", 2), ("(ZII)I", 3), ("(ILCommonDenominator$Value;LCommonDenominator$Value;)V", 3), ("(JJI)J", 3), ("()J", 0), ("(JJJJ)I", 4), ("(JJJJJJJ)V", 7), ("(JJJJJJJJ)V", 8), ("(J)J", 1), ("([JIII)V", 4), ("(JJJJ)Z", 4), ("(IIII)V", 4)]
def iq_ix : List (List Nat) := [[0, 1, 2, 3, 4, 5, 6, 4, 7, 4, 0, 8, 8, 9, 10, 5], [11, 5, 12, 13, 14, 0, 15, 8, 9, 16, 17, 0, 0, 0, 9, 16], [18, 19, 20, 21, 5, 22, 0, 23, 23, 24, 25, 26, 27, 28, 29, 30], [31, 29, 32, 33, 33, 34, 0, 35, 36, 26, 0, 26, 0, 37, 4, 38], [0, 19, 39, 40, 41, 8, 6, 4, 7, 42, 0, 43, 43, 0, 9, 44], [9, 8, 8, 26, 45, 0, 8, 26, 0, 18, 18, 18, 0, 46, 6, 47], [48, 48, 49, 8, 6, 8, 18, 0, 25, 50, 5, 19, 8, 0, 10, 18], [51, 52, 53, 5, 26, 18, 5, 51, 18, 26, 26, 26, 26, 18, 18, 5], [54, 54, 5, 55, 5, 4, 26, 56, 57, 4, 58, 56, 7, 18, 4, 18], [7, 22, 5, 5, 4, 18, 53, 18, 26, 44, 25, 37, 9, 26, 59, 8], [8, 5, 26, 40, 60, 0, 22, 18, 18, 25, 44, 0, 26, 26, 18, 18], [61, 61, 61, 61, 61, 61, 24, 24, 24, 28, 62, 40, 46, 6, 8, 63], [64, 65, 65, 65, 9, 5, 18, 10, 22, 10, 18, 51, 52, 25, 9, 53], [5, 5, 37, 25, 5, 0, 8, 40, 40, 66, 9, 8, 0, 37, 0, 26], [18, 5, 44, 51, 18, 8, 0, 8, 9, 26, 26, 26, 5, 54, 54, 5], [55, 5, 4, 5, 18, 26, 8, 67, 5, 56, 57, 8, 4, 4, 58, 44], [56, 9, 41, 7, 8, 18, 0, 44, 8, 4, 37, 8, 18, 4, 7, 22], [22, 18, 5, 5, 4, 8, 9, 18, 10, 8, 8, 26, 26, 68, 26, 53], [18, 26, 40, 5, 40, 18, 5]]
def iq_xg (a : Nat) : Nat := (iq_ix.getD (a / 16) []).getD (a % 16) 0
set_option maxRecDepth 100000 in
theorem iq_ds_all : (iq_ds.all fun q => decide ((parseMethodDescriptor q.1).map (fun d => d.parameters.length) = some q.2)) = true := by decide +kernel
def iq_dx (a : Nat) : String × Nat := iq_ds.getD (iq_xg a) ("()V", 0)
set_option maxRecDepth 100000 in
theorem iq_dx_in : ((List.range 295).all fun a => Nat.blt (iq_xg a) 69 && Nat.beq (iq_dx a).2 (iq_pg a)) = true := by decide +kernel
set_option maxRecDepth 100000 in
theorem iq_dx_d : (List.range 295).map (fun a => (ip_nm a).desc) = (List.range 295).map (fun a => (iq_dx a).1) := by rfl
theorem iq_map_at {α : Type} {f h : Nat → α} : ∀ {n a : Nat}, (List.range n).map f = (List.range n).map h → a < n → f a = h a := by
  intro n a e ha
  have e1 := congrArg (fun l => l[a]?) e
  simp only [List.getElem?_map, List.getElem?_range ha, Option.map_some] at e1
  exact Option.some.inj e1

theorem iq_par_at {a : Nat} (h : Nat.ble 295 a = false) : (parseMethodDescriptor (ip_nm a).desc).map (fun d => d.parameters.length) = some (iq_pg a) := by
  have h1 : a < 295 := by
    rcases Nat.lt_or_ge a 295 with q | q
    · exact q
    · rw [Nat.ble_eq_true_of_le q] at h
      cases h
  obtain ⟨q1, q2⟩ := iq_an (List.all_eq_true.mp iq_dx_in a (List.mem_range.mpr h1))
  have q3 := Nat.eq_of_beq_eq_true q2
  have hl : iq_xg a < iq_ds.length := Nat.le_of_ble_eq_true q1
  have hm : iq_dx a ∈ iq_ds := by
    unfold iq_dx
    rw [List.getD_eq_getElem?_getD, List.getElem?_eq_getElem hl]
    exact List.getElem_mem hl
  have e := of_decide_eq_true (List.all_eq_true.mp iq_ds_all _ hm)
  rw [iq_map_at iq_dx_d h1, e, q3]
theorem iq_not {x : Bool} (h : (!x) = true) : x = false := by
  cases x with
  | false => rfl
  | true => exact absurd h (by decide)
def iq_pr (a d b : Nat) : Bool := !Nat.ble 295 a && Nat.beq (iq_pg a + d) b
theorem iq_pr_0 {a b : Nat} (h : iq_pr a 0 b = true) : decide ((parseMethodDescriptor (ip_nm a).desc).map (fun d => d.parameters.length) = some b) = true := by
  obtain ⟨h1, h2⟩ := iq_an h
  have e := iq_par_at (a := a) (iq_not h1)
  have h3 := Nat.eq_of_beq_eq_true h2
  exact decide_eq_true (e.trans (congrArg some h3))
theorem iq_pr_1 {a b : Nat} (h : iq_pr a 1 b = true) : decide ((parseMethodDescriptor (ip_nm a).desc).map (fun d => d.parameters.length + 1) = some b) = true := by
  obtain ⟨h1, h2⟩ := iq_an h
  have e := iq_par_at (a := a) (iq_not h1)
  have h3 := Nat.eq_of_beq_eq_true h2
  refine decide_eq_true ?_
  cases hp : parseMethodDescriptor (ip_nm a).desc with
  | none =>
    rw [hp] at e
    cases e
  | some d =>
    rw [hp] at e
    have e1 : d.parameters.length = iq_pg a := Option.some.inj e
    show some (d.parameters.length + 1) = some b
    rw [e1, h3]
/-- an instruction at a place, by the bytes from there -/
def iq_d (y pc : Nat) (bs : List UInt8) (i : Instr) (len : Nat) : Bool := iq_m i len bs || decide (decode (ip_by y) pc = .ok (i, len))
def iq_dc (y pc : Nat) (bs : List UInt8) (i : Instr) (len nx : Nat) : Bool := iq_d y pc bs i len && Nat.beq nx (pc + len)
theorem iq_d_ok {y pc : Nat} {bs : List UInt8} {i : Instr} {len : Nat} (hd : (ip_by y).data.toList.drop pc = bs) (h : iq_d y pc bs i len = true) : decide (decode (ip_by y) pc = .ok (i, len)) = true := by
  rcases Bool.or_eq_true_iff.mp h with h | h
  · exact decide_eq_true (iq_m_ok hd h)
  · exact h
theorem iq_dc_ok {y pc : Nat} {bs : List UInt8} {i : Instr} {len nx : Nat} (hd : (ip_by y).data.toList.drop pc = bs) (h : iq_dc y pc bs i len nx = true) : ip_dc y pc i len nx = true :=
  Bool.and_eq_true_iff.mpr ⟨iq_d_ok hd (iq_an h).1, decide_eq_true (Nat.eq_of_beq_eq_true (iq_an h).2)⟩
theorem iq_aL {a b X : Bool} (f : a = true → b = true) (h : (a && X) = true) : (b && X) = true := Bool.and_eq_true_iff.mpr ⟨f (iq_an h).1, (iq_an h).2⟩
theorem iq_aR {a X Y : Bool} (f : X = true → Y = true) (h : (a && X) = true) : (a && Y) = true := Bool.and_eq_true_iff.mpr ⟨(iq_an h).1, f (iq_an h).2⟩
theorem iq_aB {a b X Y : Bool} (f : a = true → b = true) (g : X = true → Y = true) (h : (a && X) = true) : (b && Y) = true := Bool.and_eq_true_iff.mpr ⟨f (iq_an h).1, g (iq_an h).2⟩
theorem iq_if {p : Prop} [Decidable p] {a X Y : Bool} (f : X = true → Y = true) (h : (if p then a else X) = true) : (if p then a else Y) = true := by
  by_cases q : p
  · rw [if_pos q] at h ⊢
    exact h
  · rw [if_neg q] at h ⊢
    exact f h
def iq_ok (y pc : Nat) (bs : List UInt8) (e : ip_E) : Bool :=
  let nx := e.2.1
  let a := e.2.2.1
  let b := e.2.2.2.1
  let t := e.2.2.2.2.1
  let w := e.2.2.2.2.2.1
  let v := e.2.2.2.2.2.2.1
  let ts := e.2.2.2.2.2.2.2
  match e.1 with
  | .iconst n => iq_dc y pc bs (.iconst n) 1 nx && decide (v = .int (Int32.ofInt n))
  | .bipush n => iq_dc y pc bs (.bipush n) 2 nx && decide (v = .int (Int8.ofInt n).toInt32)
  | .sipush n => iq_dc y pc bs (.sipush n) 3 nx && decide (v = .int (Int16.ofInt n).toInt32)
  | .lconst n => iq_dc y pc bs (.lconst n) 1 nx && decide (v = .long (Int64.ofNat (n : Nat)))
  | .ldc n => iq_dc y pc bs (.ldc n) 2 nx && (match v with | .int x => decide (lw_tbl[w]? = some (.constant (ip_os y) n x)) | _ => false)
  | .ldc_w n => iq_dc y pc bs (.ldc_w n) 3 nx && (match v with | .int x => decide (lw_tbl[w]? = some (.constant (ip_os y) n x)) | _ => false)
  | .ldc2_w n => iq_dc y pc bs (.ldc2_w n) 3 nx && (match v with | .long x => decide (lw_tbl[w]? = some (.constantLong (ip_os y) n x)) | _ => false)
  | .iload n => iq_dc y pc bs (.iload n) 2 nx && decide (n = a)
  | .lload n => iq_dc y pc bs (.lload n) 2 nx && decide (n = a)
  | .aload n => iq_dc y pc bs (.aload n) 2 nx && decide (n = a)
  | .iload_n n => iq_dc y pc bs (.iload_n n) 1 nx && decide ((n : Nat) = a)
  | .lload_n n => iq_dc y pc bs (.lload_n n) 1 nx && decide ((n : Nat) = a)
  | .aload_n n => iq_dc y pc bs (.aload_n n) 1 nx && decide ((n : Nat) = a)
  | .istore n => iq_dc y pc bs (.istore n) 2 nx && (decide (n = a) && decide (a < ip_ml y))
  | .lstore n => iq_dc y pc bs (.lstore n) 2 nx && (decide (n = a) && decide (a + 1 < ip_ml y))
  | .astore n => iq_dc y pc bs (.astore n) 2 nx && (decide (n = a) && decide (a < ip_ml y))
  | .istore_n n => iq_dc y pc bs (.istore_n n) 1 nx && (decide ((n : Nat) = a) && decide (a < ip_ml y))
  | .lstore_n n => iq_dc y pc bs (.lstore_n n) 1 nx && (decide ((n : Nat) = a) && decide (a + 1 < ip_ml y))
  | .astore_n n => iq_dc y pc bs (.astore_n n) 1 nx && (decide ((n : Nat) = a) && decide (a < ip_ml y))
  | .iinc n k => (iq_dc y pc bs (.iinc n k) 3 nx || iq_dc y pc bs (.iinc n k) 6 nx) && (decide (n = a) && (decide (a < ip_ml y) && decide (v = .int (Int32.ofInt k))))
  | .goto off => iq_d y pc bs (.goto off) 3 && ip_tg pc off a
  | .ifCond c off => iq_dc y pc bs (.ifCond c off) 3 nx && ip_tg pc off a
  | .if_icmp c off => iq_dc y pc bs (.if_icmp c off) 3 nx && ip_tg pc off a
  | .tableswitch d lo hi offs => iq_d y pc bs (.tableswitch d lo hi offs) t && (ip_tg pc d a && (decide (offs.size = ts.length) && (decide ((hi - lo).toNat < ts.length) && (List.range ts.length).all fun i => decide ((pc : Int) + offs.getD i 0 = ((ts.getD i a : Nat) : Int)))))
  | .getfield n => iq_dc y pc bs (.getfield n) 3 nx && (decide (ip_F[w]? = some (ip_oc y, n, a, b, false) ∨ ip_F[w]? = some (ip_oc y, n, a, b, true)) && (decide (t = ip_kd (ip_fty a b)) && (match ip_cl[a]? with | some q => decide (b < q.2.2) | none => false)))
  | .putfield n => iq_dc y pc bs (.putfield n) 3 nx && (decide (ip_F[w]? = some (ip_oc y, n, a, b, false) ∨ ip_F[w]? = some (ip_oc y, n, a, b, true)) && (decide (t = ip_kd (ip_fty a b)) && ((match ip_cl[a]? with | some q => decide (b < q.2.2) | none => false) &&
      (!(ip_fin a b) || (decide ((ip_nm y).name = "<init>") && (decide (ip_oc y = a) && decide (ip_F[w]? = some (ip_oc y, n, a, b, false))))))))
  | .new n => iq_dc y pc bs (.new n) 3 nx && (match ip_cl[a]? with | some q => decide (q.2.2 = b) && (decide (.classLink (ip_os y) n q.1 ∈ lw_tbl) && (decide (.instantiable q.1 q.2.2 ∈ lw_tbl) && decide (.initialized q.1 ∈ lw_tbl))) | none => false)
  | .newarray n => iq_dc y pc bs (.newarray n) 2 nx && (decide (newarray.typeOf n = ip_ty a) && (decide (a < 4) && decide (.arrayClass (ip_ty a) ∈ lw_tbl)))
  | .anewarray n => iq_dc y pc bs (.anewarray n) 3 nx && ((decide (a = 4) || decide (a = 5)) && decide (.classLink (ip_os y) n (if a = 4 then RX8 else RX5) ∈ lw_tbl))
  | .invokestatic n => iq_dc y pc bs (.invokestatic n) 3 nx && (if t = 7 then decide (.methodLink (ip_os y) n arraycopyName ∈ lw_tbl) && (decide (1 ≤ ip_fr y) && decide (8 + (nativeFrameWords "java/lang/System" "arraycopy" 5 + 11) ≤ ip_lw y)) else
      (decide (t = 0 ∨ t = 3) && (decide (ip_K[w]? = some (ip_oc y, n, a, t)) && (iq_pr a 0 b && (decide (ip_fr a + 1 ≤ ip_fr y) && decide (8 + (ip_ml a + 11) + ip_lw a ≤ ip_lw y))))))
  | .invokevirtual n => iq_dc y pc bs (.invokevirtual n) 3 nx && (decide (t = 1 ∨ t = 4) && (decide (ip_K[w]? = some (ip_oc y, n, a, t)) && (iq_pr a 1 b && (decide (ip_fr a + 1 ≤ ip_fr y) && decide (8 + (ip_ml a + 11) + ip_lw a ≤ ip_lw y)))))
  | .invokespecial n => iq_dc y pc bs (.invokespecial n) 3 nx && (if t = 6 then decide (.methodLink (ip_os y) n Lib.objectInit ∈ lw_tbl) && (decide (1 ≤ ip_fr y) && decide (20 ≤ ip_lw y)) else
      (decide (t = 2 ∨ t = 5) && (decide (ip_K[w]? = some (ip_oc y, n, a, t)) && (iq_pr a 1 b && (decide (ip_fr a + 1 ≤ ip_fr y) && (decide (8 + (ip_ml a + 11) + ip_lw a ≤ ip_lw y) && (decide ((ip_nm a).name = "<init>") && decide (ip_rt a = none))))))))
  | .ireturn => iq_dc y pc bs .ireturn 1 nx && decide ((t = 0 ∧ ip_rt y = some .int) ∨ (t = 3 ∧ ip_rt y = some .boolean))
  | .lreturn => iq_dc y pc bs .lreturn 1 nx && decide (ip_rt y = some .long)
  | .areturn => iq_dc y pc bs .areturn 1 nx && (match ip_rt y with | some (.object _) => true | _ => false)
  | .return_ => iq_dc y pc bs .return_ 1 nx && decide (ip_rt y = none)
  | i => iq_dc y pc bs i 1 nx
theorem iq_ok_ok {y pc : Nat} {bs : List UInt8} {e : ip_E} (hd : (ip_by y).data.toList.drop pc = bs) (h : iq_ok y pc bs e = true) : ip_ok y pc e = true := by
  obtain ⟨i, nx, a, b, t, w, v, ts⟩ := e
  cases i with
  | iconst n => exact iq_aL (iq_dc_ok hd) h
  | bipush n => exact iq_aL (iq_dc_ok hd) h
  | sipush n => exact iq_aL (iq_dc_ok hd) h
  | lconst n => exact iq_aL (iq_dc_ok hd) h
  | ldc n => exact iq_aL (iq_dc_ok hd) h
  | ldc_w n => exact iq_aL (iq_dc_ok hd) h
  | ldc2_w n => exact iq_aL (iq_dc_ok hd) h
  | iload n => exact iq_aL (iq_dc_ok hd) h
  | lload n => exact iq_aL (iq_dc_ok hd) h
  | aload n => exact iq_aL (iq_dc_ok hd) h
  | iload_n n => exact iq_aL (iq_dc_ok hd) h
  | lload_n n => exact iq_aL (iq_dc_ok hd) h
  | aload_n n => exact iq_aL (iq_dc_ok hd) h
  | istore n => exact iq_aL (iq_dc_ok hd) h
  | lstore n => exact iq_aL (iq_dc_ok hd) h
  | astore n => exact iq_aL (iq_dc_ok hd) h
  | istore_n n => exact iq_aL (iq_dc_ok hd) h
  | lstore_n n => exact iq_aL (iq_dc_ok hd) h
  | astore_n n => exact iq_aL (iq_dc_ok hd) h
  | getfield n => exact iq_aL (iq_dc_ok hd) h
  | putfield n => exact iq_aL (iq_dc_ok hd) h
  | new n => exact iq_aL (iq_dc_ok hd) h
  | newarray n => exact iq_aL (iq_dc_ok hd) h
  | anewarray n => exact iq_aL (iq_dc_ok hd) h
  | ifCond c z => exact iq_aL (iq_dc_ok hd) h
  | if_icmp c z => exact iq_aL (iq_dc_ok hd) h
  | ireturn => exact iq_aL (iq_dc_ok hd) h
  | lreturn => exact iq_aL (iq_dc_ok hd) h
  | areturn => exact iq_aL (iq_dc_ok hd) h
  | return_ => exact iq_aL (iq_dc_ok hd) h
  | goto z => exact iq_aL (iq_d_ok hd) h
  | tableswitch d lo hi offs => exact iq_aL (iq_d_ok hd) h
  | iinc n k => exact iq_aL (fun q => (Bool.or_eq_true_iff.mp q).elim (fun q => Bool.or_eq_true_iff.mpr (Or.inl (iq_dc_ok hd q))) (fun q => Bool.or_eq_true_iff.mpr (Or.inr (iq_dc_ok hd q)))) h
  | invokevirtual n => exact iq_aB (iq_dc_ok hd) (iq_aR (iq_aR (iq_aL iq_pr_1))) h
  | invokestatic n => exact iq_aB (iq_dc_ok hd) (iq_if (iq_aR (iq_aR (iq_aL iq_pr_0)))) h
  | invokespecial n => exact iq_aB (iq_dc_ok hd) (iq_if (iq_aR (iq_aR (iq_aL iq_pr_1)))) h
  | _ => exact iq_dc_ok hd h
-- the table of the called methods by its pieces
def ip_jn : List (List (Nat × Nat × Nat × Nat)) → List (Nat × Nat × Nat × Nat)
  | [] => []
  | [l] => l
  | l :: m :: r => l ++ ip_jn (m :: r)
def ip_jk : List (List (Nat × Nat × Nat × Nat)) → Bool
  | [] => true
  | [l] => Nat.ble l.length 25
  | l :: m :: r => Nat.beq l.length 25 && ip_jk (m :: r)
def ip_jg (L : List (List (Nat × Nat × Nat × Nat))) (w : Nat) : Option (Nat × Nat × Nat × Nat) := match L[w / 25]? with
  | some l => l[w % 25]?
  | none => none
theorem ip_jn_e : ∀ (L : List (List (Nat × Nat × Nat × Nat))) (w : Nat), ip_jk L = true → (ip_jn L)[w]? = ip_jg L w
  | [], w, _ => by
    unfold ip_jg ip_jn
    simp only [List.getElem?_nil]
  | [l], w, h => by
    rw [ip_jk] at h
    have h := Nat.le_of_ble_eq_true h
    unfold ip_jg ip_jn
    rcases Nat.lt_or_ge w 25 with q | q
    · have e : w / 25 = 0 := by omega
      have f : w % 25 = w := by omega
      rw [e, f]
      rfl
    · have e : w / 25 = (w / 25 - 1) + 1 := by omega
      rw [e, List.getElem?_cons_succ, List.getElem?_nil, List.getElem?_eq_none (by omega)]
  | l :: m :: r, w, h => by
    rw [ip_jk, Bool.and_eq_true] at h
    obtain ⟨h1, h2⟩ := h
    have h1 := Nat.eq_of_beq_eq_true h1
    rw [ip_jn]
    rcases Nat.lt_or_ge w 25 with q | q
    · have e : w / 25 = 0 := by omega
      have f : w % 25 = w := by omega
      rw [List.getElem?_append_left (by omega)]
      unfold ip_jg
      rw [e, f]
      rfl
    · have e : w / 25 = (w - 25) / 25 + 1 := by omega
      have f : w % 25 = (w - 25) % 25 := by omega
      rw [List.getElem?_append_right (by omega), h1, ip_jn_e (m :: r) _ h2]
      unfold ip_jg
      rw [e, f, List.getElem?_cons_succ]
def ip_KL : List (List (Nat × Nat × Nat × Nat)) := [ip_K0, ip_K1, ip_K2, ip_K3, ip_K4, ip_K5, ip_K6, ip_K7, ip_K8, ip_K9, ip_K10, ip_K11, ip_K12, ip_K13]
def ip_Kf (w : Nat) : Option (Nat × Nat × Nat × Nat) := ip_jg ip_KL w
theorem ip_Kf_f : ip_Kf = fun w => ip_K[w]? := by
  funext w
  exact (ip_jn_e ip_KL w (by decide +kernel)).symm
def iy_jn : List (List (Nat × Nat × Nat × Nat × Bool)) → List (Nat × Nat × Nat × Nat × Bool)
  | [] => []
  | [l] => l
  | l :: m :: r => l ++ iy_jn (m :: r)
def iy_jk : List (List (Nat × Nat × Nat × Nat × Bool)) → Bool
  | [] => true
  | [l] => Nat.ble l.length 25
  | l :: m :: r => Nat.beq l.length 25 && iy_jk (m :: r)
def iy_jg (L : List (List (Nat × Nat × Nat × Nat × Bool))) (w : Nat) : Option (Nat × Nat × Nat × Nat × Bool) := match L[w / 25]? with
  | some l => l[w % 25]?
  | none => none
theorem iy_jn_e : ∀ (L : List (List (Nat × Nat × Nat × Nat × Bool))) (w : Nat), iy_jk L = true → (iy_jn L)[w]? = iy_jg L w
  | [], w, _ => by
    unfold iy_jg iy_jn
    simp only [List.getElem?_nil]
  | [l], w, h => by
    rw [iy_jk] at h
    have h := Nat.le_of_ble_eq_true h
    unfold iy_jg iy_jn
    rcases Nat.lt_or_ge w 25 with q | q
    · have e : w / 25 = 0 := by omega
      have f : w % 25 = w := by omega
      rw [e, f]
      rfl
    · have e : w / 25 = (w / 25 - 1) + 1 := by omega
      rw [e, List.getElem?_cons_succ, List.getElem?_nil, List.getElem?_eq_none (by omega)]
  | l :: m :: r, w, h => by
    rw [iy_jk, Bool.and_eq_true] at h
    obtain ⟨h1, h2⟩ := h
    have h1 := Nat.eq_of_beq_eq_true h1
    rw [iy_jn]
    rcases Nat.lt_or_ge w 25 with q | q
    · have e : w / 25 = 0 := by omega
      have f : w % 25 = w := by omega
      rw [List.getElem?_append_left (by omega)]
      unfold iy_jg
      rw [e, f]
      rfl
    · have e : w / 25 = (w - 25) / 25 + 1 := by omega
      have f : w % 25 = (w - 25) % 25 := by omega
      rw [List.getElem?_append_right (by omega), h1, iy_jn_e (m :: r) _ h2]
      unfold iy_jg
      rw [e, f, List.getElem?_cons_succ]
def iy_FL : List (List (Nat × Nat × Nat × Nat × Bool)) := [iy_F0, iy_F1, iy_F2, iy_F3, iy_F4, iy_F5]
def iy_ff (w : Nat) : Option (Nat × Nat × Nat × Nat × Bool) := iy_jg iy_FL w
theorem iy_ff_f : iy_ff = fun w => ip_F[w]? := by
  funext w
  rw [iy_F_e]
  exact (iy_jn_e iy_FL w (by decide +kernel)).symm
-- LOOK-UPS BY KEYS
theorem iy_orb {a b : Bool} (h : a = true → b = true) : (a || b) = b := by
  cases a with
  | false => rfl
  | true => rw [h rfl]; rfl
theorem iy_ps {l u : List Cond} {m r : Nat} {c : Cond} (e : u = (l.drop m).take 32) (h : u[r]? = some c) : l[m + r]? = some c := by
  subst e
  rw [List.getElem?_take] at h
  split at h
  · rw [List.getElem?_drop] at h
    exact h
  · cases h
theorem iy_l {a b : List Cond} {i : Nat} {c : Cond} (h : a[i]? = some c) : (a ++ b)[i]? = some c := by
  rw [List.getElem?_append_left (List.getElem?_eq_some_iff.mp h).1]
  exact h
theorem iy_r {a b : List Cond} {n i : Nat} {c : Cond} (hn : a.length = n) (h : b[i]? = some c) : (a ++ b)[n + i]? = some c := by
  rw [List.getElem?_append_right (by omega), show n + i - a.length = i by omega]
  exact h
set_option maxRecDepth 100000 in
theorem iy_n0 : (k2_sels lw_privs).length = 95 := by decide +kernel
set_option maxRecDepth 100000 in
theorem iy_n1 : tables_1_1.length = 240 := by decide +kernel
set_option maxRecDepth 100000 in
theorem iy_n2 : tables_1_2.length = 240 := by decide +kernel
set_option maxRecDepth 100000 in
theorem iy_n3 : tables_1_3.length = 240 := by decide +kernel
set_option maxRecDepth 100000 in
theorem iy_n4 : tables_1_4.length = 240 := by decide +kernel
set_option maxRecDepth 100000 in
theorem iy_n5 : tables_1_5.length = 240 := by decide +kernel
set_option maxRecDepth 100000 in
theorem iy_n6 : tables_1_6.length = 240 := by decide +kernel
set_option maxRecDepth 100000 in
theorem iy_n7 : tables_1_7.length = 240 := by decide +kernel
theorem iy_g2 {r w : Nat} {c : Cond} (h : tables_1_2[r]? = some c) (e : Nat.beq w (95 + (240 + r)) = true) : lw_tbl[w]? = some c := by
  rw [Nat.eq_of_beq_eq_true e]
  exact iy_r iy_n0 (iy_r iy_n1 (iy_l h))
theorem iy_g3 {r w : Nat} {c : Cond} (h : tables_1_3[r]? = some c) (e : Nat.beq w (95 + (240 + (240 + r))) = true) : lw_tbl[w]? = some c := by
  rw [Nat.eq_of_beq_eq_true e]
  exact iy_r iy_n0 (iy_r iy_n1 (iy_r iy_n2 (iy_l h)))
theorem iy_g4 {r w : Nat} {c : Cond} (h : tables_1_4[r]? = some c) (e : Nat.beq w (95 + (240 + (240 + (240 + r)))) = true) : lw_tbl[w]? = some c := by
  rw [Nat.eq_of_beq_eq_true e]
  exact iy_r iy_n0 (iy_r iy_n1 (iy_r iy_n2 (iy_r iy_n3 (iy_l h))))
theorem iy_g5 {r w : Nat} {c : Cond} (h : tables_1_5[r]? = some c) (e : Nat.beq w (95 + (240 + (240 + (240 + (240 + r))))) = true) : lw_tbl[w]? = some c := by
  rw [Nat.eq_of_beq_eq_true e]
  exact iy_r iy_n0 (iy_r iy_n1 (iy_r iy_n2 (iy_r iy_n3 (iy_r iy_n4 (iy_l h)))))
theorem iy_g6 {r w : Nat} {c : Cond} (h : tables_1_6[r]? = some c) (e : Nat.beq w (95 + (240 + (240 + (240 + (240 + (240 + r)))))) = true) : lw_tbl[w]? = some c := by
  rw [Nat.eq_of_beq_eq_true e]
  exact iy_r iy_n0 (iy_r iy_n1 (iy_r iy_n2 (iy_r iy_n3 (iy_r iy_n4 (iy_r iy_n5 (iy_l h))))))
theorem iy_g7 {r w : Nat} {c : Cond} (h : tables_1_7[r]? = some c) (e : Nat.beq w (95 + (240 + (240 + (240 + (240 + (240 + (240 + r))))))) = true) : lw_tbl[w]? = some c := by
  rw [Nat.eq_of_beq_eq_true e]
  exact iy_r iy_n0 (iy_r iy_n1 (iy_r iy_n2 (iy_r iy_n3 (iy_r iy_n4 (iy_r iy_n5 (iy_r iy_n6 (iy_l h)))))))
theorem iy_g8 {r w : Nat} {c : Cond} (h : tables_1_8[r]? = some c) (e : Nat.beq w (95 + (240 + (240 + (240 + (240 + (240 + (240 + (240 + r)))))))) = true) : lw_tbl[w]? = some c := by
  rw [Nat.eq_of_beq_eq_true e]
  exact iy_r iy_n0 (iy_r iy_n1 (iy_r iy_n2 (iy_r iy_n3 (iy_r iy_n4 (iy_r iy_n5 (iy_r iy_n6 (iy_r iy_n7 h)))))))
def iy_cI : List (Nat × Nat × Nat × Int32) := [(1, 72, 661, (-2147483648)), (7, 19, 1126, (-2147483648)), (8, 50, 903, (-2147483648)), (10, 256, 897, (-2147483648)), (11, 352, 1568, (-2147483648))]
set_option maxRecDepth 100000 in
theorem iy_cI0 : lw_tbl[661]? = some (.constant (ip_own.getD 1 "") 72 (-2147483648)) := iy_g3 (iy_ps ip_u3_2.2 (r := 22) (show ip_u3_2.1[22]? = some (.constant (ip_own.getD 1 "") 72 (-2147483648)) by decide +kernel)) rfl
set_option maxRecDepth 100000 in
theorem iy_cI1 : lw_tbl[1126]? = some (.constant (ip_own.getD 7 "") 19 (-2147483648)) := iy_g5 (iy_ps ip_u5_2.2 (r := 7) (show ip_u5_2.1[7]? = some (.constant (ip_own.getD 7 "") 19 (-2147483648)) by decide +kernel)) rfl
set_option maxRecDepth 100000 in
theorem iy_cI2 : lw_tbl[903]? = some (.constant (ip_own.getD 8 "") 50 (-2147483648)) := iy_g4 (iy_ps ip_u4_2.2 (r := 24) (show ip_u4_2.1[24]? = some (.constant (ip_own.getD 8 "") 50 (-2147483648)) by decide +kernel)) rfl
set_option maxRecDepth 100000 in
theorem iy_cI3 : lw_tbl[897]? = some (.constant (ip_own.getD 10 "") 256 (-2147483648)) := iy_g4 (iy_ps ip_u4_2.2 (r := 18) (show ip_u4_2.1[18]? = some (.constant (ip_own.getD 10 "") 256 (-2147483648)) by decide +kernel)) rfl
set_option maxRecDepth 100000 in
theorem iy_cI4 : lw_tbl[1568]? = some (.constant (ip_own.getD 11 "") 352 (-2147483648)) := iy_g7 (iy_ps ip_u7_1.2 (r := 1) (show ip_u7_1.1[1]? = some (.constant (ip_own.getD 11 "") 352 (-2147483648)) by decide +kernel)) rfl
theorem iy_cI_ok : ∀ r ∈ iy_cI, lw_tbl[r.2.2.1]? = some (.constant (ip_own.getD r.1 "") r.2.1 r.2.2.2) := List.forall_mem_cons.mpr ⟨iy_cI0, List.forall_mem_cons.mpr ⟨iy_cI1, List.forall_mem_cons.mpr ⟨iy_cI2, List.forall_mem_cons.mpr ⟨iy_cI3, List.forall_mem_cons.mpr ⟨iy_cI4, fun _ h => absurd h List.not_mem_nil⟩⟩⟩⟩⟩
def iy_lI (y n w : Nat) (x : Int32) : Bool := (iy_cI.any fun r => Nat.beq r.2.2.1 w && (Nat.beq r.1 (ip_oc y) && (Nat.beq r.2.1 n && decide (r.2.2.2 = x)))) || decide (lw_tbl[w]? = some (.constant (ip_os y) n x))
theorem iy_lI_f : iy_lI = fun y n w x => decide (lw_tbl[w]? = some (.constant (ip_os y) n x)) := by
  funext y n w x
  refine iy_orb fun h => ?_
  obtain ⟨r, hr, q⟩ := List.any_eq_true.mp h
  obtain ⟨q1, q⟩ := iq_an q
  obtain ⟨q2, q⟩ := iq_an q
  obtain ⟨q3, q4⟩ := iq_an q
  have e := iy_cI_ok r hr
  rw [Nat.eq_of_beq_eq_true q1, Nat.eq_of_beq_eq_true q2, Nat.eq_of_beq_eq_true q3, of_decide_eq_true q4] at e
  exact decide_eq_true e
def iy_cL : List (Nat × Nat × Nat × Int64) := [(0, 37, 975, (-9223372036854775808)), (1, 201, 1054, (-9223372036854775808)), (1, 203, 1045, 2147483648), (1, 218, 1053, (-1)), (2, 33, 444, (-3)), (2, 35, 445, 3), (2, 41, 456, 4), (2, 43, 457, 27), (2, 45, 458, 18), (4, 37, 719, (-1)), (4, 39, 720, 9223372036854775807), (8, 28, 551, 2047), (8, 30, 552, 4503599627370495), (8, 36, 554, 4503599627370496), (8, 38, 555, 150), (8, 48, 563, (-150)), (10, 266, 909, (-9223372036854775808)), (10, 325, 988, 1000000000), (10, 353, 1033, (-1)), (10, 408, 834, 99), (11, 108, 1378, 2), (11, 113, 1387, 3), (11, 152, 1342, (-150)), (11, 154, 1343, 150), (11, 209, 1400, 2047), (11, 211, 1401, 4503599627370495), (11, 213, 1402, 4503599627370496), (11, 283, 1495, 9223372036854775807), (11, 353, 1573, (-9223372036854775808)), (11, 371, 1632, 1000000000), (11, 392, 1657, 9999), (11, 410, 1694, 10000000000000), (11, 436, 1750, 99), (14, 28, 1783, 4294967295)]
set_option maxRecDepth 100000 in
theorem iy_cL0 : lw_tbl[975]? = some (.constantLong (ip_own.getD 0 "") 37 (-9223372036854775808)) := iy_g4 (iy_ps ip_u4_5.2 (r := 0) (show ip_u4_5.1[0]? = some (.constantLong (ip_own.getD 0 "") 37 (-9223372036854775808)) by decide +kernel)) rfl
set_option maxRecDepth 100000 in
theorem iy_cL1 : lw_tbl[1054]? = some (.constantLong (ip_own.getD 1 "") 201 (-9223372036854775808)) := iy_g4 (iy_ps ip_u4_7.2 (r := 15) (show ip_u4_7.1[15]? = some (.constantLong (ip_own.getD 1 "") 201 (-9223372036854775808)) by decide +kernel)) rfl
set_option maxRecDepth 100000 in
theorem iy_cL2 : lw_tbl[1045]? = some (.constantLong (ip_own.getD 1 "") 203 2147483648) := iy_g4 (iy_ps ip_u4_7.2 (r := 6) (show ip_u4_7.1[6]? = some (.constantLong (ip_own.getD 1 "") 203 2147483648) by decide +kernel)) rfl
set_option maxRecDepth 100000 in
theorem iy_cL3 : lw_tbl[1053]? = some (.constantLong (ip_own.getD 1 "") 218 (-1)) := iy_g4 (iy_ps ip_u4_7.2 (r := 14) (show ip_u4_7.1[14]? = some (.constantLong (ip_own.getD 1 "") 218 (-1)) by decide +kernel)) rfl
set_option maxRecDepth 100000 in
theorem iy_cL4 : lw_tbl[444]? = some (.constantLong (ip_own.getD 2 "") 33 (-3)) := iy_g2 (iy_ps ip_u2_3.2 (r := 13) (show ip_u2_3.1[13]? = some (.constantLong (ip_own.getD 2 "") 33 (-3)) by decide +kernel)) rfl
set_option maxRecDepth 100000 in
theorem iy_cL5 : lw_tbl[445]? = some (.constantLong (ip_own.getD 2 "") 35 3) := iy_g2 (iy_ps ip_u2_3.2 (r := 14) (show ip_u2_3.1[14]? = some (.constantLong (ip_own.getD 2 "") 35 3) by decide +kernel)) rfl
set_option maxRecDepth 100000 in
theorem iy_cL6 : lw_tbl[456]? = some (.constantLong (ip_own.getD 2 "") 41 4) := iy_g2 (iy_ps ip_u2_3.2 (r := 25) (show ip_u2_3.1[25]? = some (.constantLong (ip_own.getD 2 "") 41 4) by decide +kernel)) rfl
set_option maxRecDepth 100000 in
theorem iy_cL7 : lw_tbl[457]? = some (.constantLong (ip_own.getD 2 "") 43 27) := iy_g2 (iy_ps ip_u2_3.2 (r := 26) (show ip_u2_3.1[26]? = some (.constantLong (ip_own.getD 2 "") 43 27) by decide +kernel)) rfl
set_option maxRecDepth 100000 in
theorem iy_cL8 : lw_tbl[458]? = some (.constantLong (ip_own.getD 2 "") 45 18) := iy_g2 (iy_ps ip_u2_3.2 (r := 27) (show ip_u2_3.1[27]? = some (.constantLong (ip_own.getD 2 "") 45 18) by decide +kernel)) rfl
set_option maxRecDepth 100000 in
theorem iy_cL9 : lw_tbl[719]? = some (.constantLong (ip_own.getD 4 "") 37 (-1)) := iy_g3 (iy_ps ip_u3_4.2 (r := 16) (show ip_u3_4.1[16]? = some (.constantLong (ip_own.getD 4 "") 37 (-1)) by decide +kernel)) rfl
set_option maxRecDepth 100000 in
theorem iy_cL10 : lw_tbl[720]? = some (.constantLong (ip_own.getD 4 "") 39 9223372036854775807) := iy_g3 (iy_ps ip_u3_4.2 (r := 17) (show ip_u3_4.1[17]? = some (.constantLong (ip_own.getD 4 "") 39 9223372036854775807) by decide +kernel)) rfl
set_option maxRecDepth 100000 in
theorem iy_cL11 : lw_tbl[551]? = some (.constantLong (ip_own.getD 8 "") 28 2047) := iy_g2 (iy_ps ip_u2_6.2 (r := 24) (show ip_u2_6.1[24]? = some (.constantLong (ip_own.getD 8 "") 28 2047) by decide +kernel)) rfl
set_option maxRecDepth 100000 in
theorem iy_cL12 : lw_tbl[552]? = some (.constantLong (ip_own.getD 8 "") 30 4503599627370495) := iy_g2 (iy_ps ip_u2_6.2 (r := 25) (show ip_u2_6.1[25]? = some (.constantLong (ip_own.getD 8 "") 30 4503599627370495) by decide +kernel)) rfl
set_option maxRecDepth 100000 in
theorem iy_cL13 : lw_tbl[554]? = some (.constantLong (ip_own.getD 8 "") 36 4503599627370496) := iy_g2 (iy_ps ip_u2_6.2 (r := 27) (show ip_u2_6.1[27]? = some (.constantLong (ip_own.getD 8 "") 36 4503599627370496) by decide +kernel)) rfl
set_option maxRecDepth 100000 in
theorem iy_cL14 : lw_tbl[555]? = some (.constantLong (ip_own.getD 8 "") 38 150) := iy_g2 (iy_ps ip_u2_6.2 (r := 28) (show ip_u2_6.1[28]? = some (.constantLong (ip_own.getD 8 "") 38 150) by decide +kernel)) rfl
set_option maxRecDepth 100000 in
theorem iy_cL15 : lw_tbl[563]? = some (.constantLong (ip_own.getD 8 "") 48 (-150)) := iy_g2 (iy_ps ip_u2_7.2 (r := 4) (show ip_u2_7.1[4]? = some (.constantLong (ip_own.getD 8 "") 48 (-150)) by decide +kernel)) rfl
set_option maxRecDepth 100000 in
theorem iy_cL16 : lw_tbl[909]? = some (.constantLong (ip_own.getD 10 "") 266 (-9223372036854775808)) := iy_g4 (iy_ps ip_u4_2.2 (r := 30) (show ip_u4_2.1[30]? = some (.constantLong (ip_own.getD 10 "") 266 (-9223372036854775808)) by decide +kernel)) rfl
set_option maxRecDepth 100000 in
theorem iy_cL17 : lw_tbl[988]? = some (.constantLong (ip_own.getD 10 "") 325 1000000000) := iy_g4 (iy_ps ip_u4_5.2 (r := 13) (show ip_u4_5.1[13]? = some (.constantLong (ip_own.getD 10 "") 325 1000000000) by decide +kernel)) rfl
set_option maxRecDepth 100000 in
theorem iy_cL18 : lw_tbl[1033]? = some (.constantLong (ip_own.getD 10 "") 353 (-1)) := iy_g4 (iy_ps ip_u4_6.2 (r := 26) (show ip_u4_6.1[26]? = some (.constantLong (ip_own.getD 10 "") 353 (-1)) by decide +kernel)) rfl
set_option maxRecDepth 100000 in
theorem iy_cL19 : lw_tbl[834]? = some (.constantLong (ip_own.getD 10 "") 408 99) := iy_g4 (iy_ps ip_u4_0.2 (r := 19) (show ip_u4_0.1[19]? = some (.constantLong (ip_own.getD 10 "") 408 99) by decide +kernel)) rfl
set_option maxRecDepth 100000 in
theorem iy_cL20 : lw_tbl[1378]? = some (.constantLong (ip_own.getD 11 "") 108 2) := iy_g6 (iy_ps ip_u6_2.2 (r := 19) (show ip_u6_2.1[19]? = some (.constantLong (ip_own.getD 11 "") 108 2) by decide +kernel)) rfl
set_option maxRecDepth 100000 in
theorem iy_cL21 : lw_tbl[1387]? = some (.constantLong (ip_own.getD 11 "") 113 3) := iy_g6 (iy_ps ip_u6_2.2 (r := 28) (show ip_u6_2.1[28]? = some (.constantLong (ip_own.getD 11 "") 113 3) by decide +kernel)) rfl
set_option maxRecDepth 100000 in
theorem iy_cL22 : lw_tbl[1342]? = some (.constantLong (ip_own.getD 11 "") 152 (-150)) := iy_g6 (iy_ps ip_u6_1.2 (r := 15) (show ip_u6_1.1[15]? = some (.constantLong (ip_own.getD 11 "") 152 (-150)) by decide +kernel)) rfl
set_option maxRecDepth 100000 in
theorem iy_cL23 : lw_tbl[1343]? = some (.constantLong (ip_own.getD 11 "") 154 150) := iy_g6 (iy_ps ip_u6_1.2 (r := 16) (show ip_u6_1.1[16]? = some (.constantLong (ip_own.getD 11 "") 154 150) by decide +kernel)) rfl
set_option maxRecDepth 100000 in
theorem iy_cL24 : lw_tbl[1400]? = some (.constantLong (ip_own.getD 11 "") 209 2047) := iy_g6 (iy_ps ip_u6_3.2 (r := 9) (show ip_u6_3.1[9]? = some (.constantLong (ip_own.getD 11 "") 209 2047) by decide +kernel)) rfl
set_option maxRecDepth 100000 in
theorem iy_cL25 : lw_tbl[1401]? = some (.constantLong (ip_own.getD 11 "") 211 4503599627370495) := iy_g6 (iy_ps ip_u6_3.2 (r := 10) (show ip_u6_3.1[10]? = some (.constantLong (ip_own.getD 11 "") 211 4503599627370495) by decide +kernel)) rfl
set_option maxRecDepth 100000 in
theorem iy_cL26 : lw_tbl[1402]? = some (.constantLong (ip_own.getD 11 "") 213 4503599627370496) := iy_g6 (iy_ps ip_u6_3.2 (r := 11) (show ip_u6_3.1[11]? = some (.constantLong (ip_own.getD 11 "") 213 4503599627370496) by decide +kernel)) rfl
set_option maxRecDepth 100000 in
theorem iy_cL27 : lw_tbl[1495]? = some (.constantLong (ip_own.getD 11 "") 283 9223372036854775807) := iy_g6 (iy_ps ip_u6_6.2 (r := 8) (show ip_u6_6.1[8]? = some (.constantLong (ip_own.getD 11 "") 283 9223372036854775807) by decide +kernel)) rfl
set_option maxRecDepth 100000 in
theorem iy_cL28 : lw_tbl[1573]? = some (.constantLong (ip_own.getD 11 "") 353 (-9223372036854775808)) := iy_g7 (iy_ps ip_u7_1.2 (r := 6) (show ip_u7_1.1[6]? = some (.constantLong (ip_own.getD 11 "") 353 (-9223372036854775808)) by decide +kernel)) rfl
set_option maxRecDepth 100000 in
theorem iy_cL29 : lw_tbl[1632]? = some (.constantLong (ip_own.getD 11 "") 371 1000000000) := iy_g7 (iy_ps ip_u7_3.2 (r := 1) (show ip_u7_3.1[1]? = some (.constantLong (ip_own.getD 11 "") 371 1000000000) by decide +kernel)) rfl
set_option maxRecDepth 100000 in
theorem iy_cL30 : lw_tbl[1657]? = some (.constantLong (ip_own.getD 11 "") 392 9999) := iy_g7 (iy_ps ip_u7_3.2 (r := 26) (show ip_u7_3.1[26]? = some (.constantLong (ip_own.getD 11 "") 392 9999) by decide +kernel)) rfl
set_option maxRecDepth 100000 in
theorem iy_cL31 : lw_tbl[1694]? = some (.constantLong (ip_own.getD 11 "") 410 10000000000000) := iy_g7 (iy_ps ip_u7_4.2 (r := 31) (show ip_u7_4.1[31]? = some (.constantLong (ip_own.getD 11 "") 410 10000000000000) by decide +kernel)) rfl
set_option maxRecDepth 100000 in
theorem iy_cL32 : lw_tbl[1750]? = some (.constantLong (ip_own.getD 11 "") 436 99) := iy_g7 (iy_ps ip_u7_6.2 (r := 23) (show ip_u7_6.1[23]? = some (.constantLong (ip_own.getD 11 "") 436 99) by decide +kernel)) rfl
set_option maxRecDepth 100000 in
theorem iy_cL33 : lw_tbl[1783]? = some (.constantLong (ip_own.getD 14 "") 28 4294967295) := iy_g8 (iy_ps ip_u8_0.2 (r := 8) (show ip_u8_0.1[8]? = some (.constantLong (ip_own.getD 14 "") 28 4294967295) by decide +kernel)) rfl
theorem iy_cL_ok : ∀ r ∈ iy_cL, lw_tbl[r.2.2.1]? = some (.constantLong (ip_own.getD r.1 "") r.2.1 r.2.2.2) := List.forall_mem_cons.mpr ⟨iy_cL0, List.forall_mem_cons.mpr ⟨iy_cL1, List.forall_mem_cons.mpr ⟨iy_cL2, List.forall_mem_cons.mpr ⟨iy_cL3, List.forall_mem_cons.mpr ⟨iy_cL4, List.forall_mem_cons.mpr ⟨iy_cL5, List.forall_mem_cons.mpr ⟨iy_cL6, List.forall_mem_cons.mpr ⟨iy_cL7, List.forall_mem_cons.mpr ⟨iy_cL8, List.forall_mem_cons.mpr ⟨iy_cL9, List.forall_mem_cons.mpr ⟨iy_cL10, List.forall_mem_cons.mpr ⟨iy_cL11, List.forall_mem_cons.mpr ⟨iy_cL12, List.forall_mem_cons.mpr ⟨iy_cL13, List.forall_mem_cons.mpr ⟨iy_cL14, List.forall_mem_cons.mpr ⟨iy_cL15, List.forall_mem_cons.mpr ⟨iy_cL16, List.forall_mem_cons.mpr ⟨iy_cL17, List.forall_mem_cons.mpr ⟨iy_cL18, List.forall_mem_cons.mpr ⟨iy_cL19, List.forall_mem_cons.mpr ⟨iy_cL20, List.forall_mem_cons.mpr ⟨iy_cL21, List.forall_mem_cons.mpr ⟨iy_cL22, List.forall_mem_cons.mpr ⟨iy_cL23, List.forall_mem_cons.mpr ⟨iy_cL24, List.forall_mem_cons.mpr ⟨iy_cL25, List.forall_mem_cons.mpr ⟨iy_cL26, List.forall_mem_cons.mpr ⟨iy_cL27, List.forall_mem_cons.mpr ⟨iy_cL28, List.forall_mem_cons.mpr ⟨iy_cL29, List.forall_mem_cons.mpr ⟨iy_cL30, List.forall_mem_cons.mpr ⟨iy_cL31, List.forall_mem_cons.mpr ⟨iy_cL32, List.forall_mem_cons.mpr ⟨iy_cL33, fun _ h => absurd h List.not_mem_nil⟩⟩⟩⟩⟩⟩⟩⟩⟩⟩⟩⟩⟩⟩⟩⟩⟩⟩⟩⟩⟩⟩⟩⟩⟩⟩⟩⟩⟩⟩⟩⟩⟩⟩
def iy_lL (y n w : Nat) (x : Int64) : Bool := (iy_cL.any fun r => Nat.beq r.2.2.1 w && (Nat.beq r.1 (ip_oc y) && (Nat.beq r.2.1 n && decide (r.2.2.2 = x)))) || decide (lw_tbl[w]? = some (.constantLong (ip_os y) n x))
theorem iy_lL_f : iy_lL = fun y n w x => decide (lw_tbl[w]? = some (.constantLong (ip_os y) n x)) := by
  funext y n w x
  refine iy_orb fun h => ?_
  obtain ⟨r, hr, q⟩ := List.any_eq_true.mp h
  obtain ⟨q1, q⟩ := iq_an q
  obtain ⟨q2, q⟩ := iq_an q
  obtain ⟨q3, q4⟩ := iq_an q
  have e := iy_cL_ok r hr
  rw [Nat.eq_of_beq_eq_true q1, Nat.eq_of_beq_eq_true q2, Nat.eq_of_beq_eq_true q3, of_decide_eq_true q4] at e
  exact decide_eq_true e
def iy_nP (r : Nat × Nat × Nat) : Prop := (Cond.classLink (ip_own.getD r.1 "") r.2.1 (ip_cl.getD r.2.2 (RX0, TX0, 0)).1 ∈ lw_tbl ∧ Cond.instantiable (ip_cl.getD r.2.2 (RX0, TX0, 0)).1 (ip_cl.getD r.2.2 (RX0, TX0, 0)).2.2 ∈ lw_tbl) ∧ Cond.initialized (ip_cl.getD r.2.2 (RX0, TX0, 0)).1 ∈ lw_tbl
def iy_nr : List (Nat × Nat × Nat) := [(1, 19, 4), (1, 42, 8), (2, 19, 4), (2, 26, 8), (3, 9, 5), (5, 25, 9), (6, 15, 9), (10, 9, 2), (10, 24, 1), (10, 31, 9), (10, 38, 6), (10, 45, 3), (10, 52, 7), (10, 69, 4), (10, 76, 0), (10, 18, 8), (14, 7, 10), (14, 10, 11)]
set_option maxRecDepth 100000 in
theorem iy_n_0 : iy_nP (1, 19, 4) := ⟨⟨(ip_t1 (ip_v1_3 (List.mem_of_getElem? (l := ip_u1_3.1) (i := 9) rfl))), (ip_t1 (ip_v1_0 (List.mem_of_getElem? (l := ip_u1_0.1) (i := 30) rfl)))⟩, (ip_t1 (ip_v1_0 (List.mem_of_getElem? (l := ip_u1_0.1) (i := 3) rfl)))⟩
set_option maxRecDepth 100000 in
theorem iy_n_1 : iy_nP (1, 42, 8) := ⟨⟨(ip_t1 (ip_v1_3 (List.mem_of_getElem? (l := ip_u1_3.1) (i := 11) rfl))), (ip_t1 (ip_v1_1 (List.mem_of_getElem? (l := ip_u1_1.1) (i := 9) rfl)))⟩, (ip_t1 (ip_v1_0 (List.mem_of_getElem? (l := ip_u1_0.1) (i := 4) rfl)))⟩
set_option maxRecDepth 100000 in
theorem iy_n_2 : iy_nP (2, 19, 4) := ⟨⟨(ip_t1 (ip_v1_0 (List.mem_of_getElem? (l := ip_u1_0.1) (i := 29) rfl))), (ip_t1 (ip_v1_0 (List.mem_of_getElem? (l := ip_u1_0.1) (i := 30) rfl)))⟩, (ip_t1 (ip_v1_0 (List.mem_of_getElem? (l := ip_u1_0.1) (i := 3) rfl)))⟩
set_option maxRecDepth 100000 in
theorem iy_n_3 : iy_nP (2, 26, 8) := ⟨⟨(ip_t1 (ip_v1_1 (List.mem_of_getElem? (l := ip_u1_1.1) (i := 8) rfl))), (ip_t1 (ip_v1_1 (List.mem_of_getElem? (l := ip_u1_1.1) (i := 9) rfl)))⟩, (ip_t1 (ip_v1_0 (List.mem_of_getElem? (l := ip_u1_0.1) (i := 4) rfl)))⟩
set_option maxRecDepth 100000 in
theorem iy_n_4 : iy_nP (3, 9, 5) := ⟨⟨(ip_t1 (ip_v1_6 (List.mem_of_getElem? (l := ip_u1_6.1) (i := 20) rfl))), (ip_t1 (ip_v1_6 (List.mem_of_getElem? (l := ip_u1_6.1) (i := 22) rfl)))⟩, (ip_t1 (ip_v1_0 (List.mem_of_getElem? (l := ip_u1_0.1) (i := 9) rfl)))⟩
set_option maxRecDepth 100000 in
theorem iy_n_5 : iy_nP (5, 25, 9) := ⟨⟨(ip_t1 (ip_v1_6 (List.mem_of_getElem? (l := ip_u1_6.1) (i := 27) rfl))), (ip_t1 (ip_v1_5 (List.mem_of_getElem? (l := ip_u1_5.1) (i := 5) rfl)))⟩, (ip_t1 (ip_v1_0 (List.mem_of_getElem? (l := ip_u1_0.1) (i := 6) rfl)))⟩
set_option maxRecDepth 100000 in
theorem iy_n_6 : iy_nP (6, 15, 9) := ⟨⟨(ip_t1 (ip_v1_5 (List.mem_of_getElem? (l := ip_u1_5.1) (i := 25) rfl))), (ip_t1 (ip_v1_5 (List.mem_of_getElem? (l := ip_u1_5.1) (i := 5) rfl)))⟩, (ip_t1 (ip_v1_0 (List.mem_of_getElem? (l := ip_u1_0.1) (i := 6) rfl)))⟩
set_option maxRecDepth 100000 in
theorem iy_n_7 : iy_nP (10, 9, 2) := ⟨⟨(ip_t1 (ip_v1_0 (List.mem_of_getElem? (l := ip_u1_0.1) (i := 23) rfl))), (ip_t1 (ip_v1_0 (List.mem_of_getElem? (l := ip_u1_0.1) (i := 24) rfl)))⟩, (ip_t1 (ip_v1_0 (List.mem_of_getElem? (l := ip_u1_0.1) (i := 2) rfl)))⟩
set_option maxRecDepth 100000 in
theorem iy_n_8 : iy_nP (10, 24, 1) := ⟨⟨(ip_t1 (ip_v1_3 (List.mem_of_getElem? (l := ip_u1_3.1) (i := 3) rfl))), (ip_t1 (ip_v1_3 (List.mem_of_getElem? (l := ip_u1_3.1) (i := 4) rfl)))⟩, (ip_t1 (ip_v1_0 (List.mem_of_getElem? (l := ip_u1_0.1) (i := 5) rfl)))⟩
set_option maxRecDepth 100000 in
theorem iy_n_9 : iy_nP (10, 31, 9) := ⟨⟨(ip_t1 (ip_v1_5 (List.mem_of_getElem? (l := ip_u1_5.1) (i := 4) rfl))), (ip_t1 (ip_v1_5 (List.mem_of_getElem? (l := ip_u1_5.1) (i := 5) rfl)))⟩, (ip_t1 (ip_v1_0 (List.mem_of_getElem? (l := ip_u1_0.1) (i := 6) rfl)))⟩
set_option maxRecDepth 100000 in
theorem iy_n_10 : iy_nP (10, 38, 6) := ⟨⟨(ip_t1 (ip_v1_5 (List.mem_of_getElem? (l := ip_u1_5.1) (i := 19) rfl))), (ip_t1 (ip_v1_5 (List.mem_of_getElem? (l := ip_u1_5.1) (i := 20) rfl)))⟩, (ip_t1 (ip_v1_0 (List.mem_of_getElem? (l := ip_u1_0.1) (i := 7) rfl)))⟩
set_option maxRecDepth 100000 in
theorem iy_n_11 : iy_nP (10, 45, 3) := ⟨⟨(ip_t1 (ip_v1_6 (List.mem_of_getElem? (l := ip_u1_6.1) (i := 14) rfl))), (ip_t1 (ip_v1_6 (List.mem_of_getElem? (l := ip_u1_6.1) (i := 15) rfl)))⟩, (ip_t1 (ip_v1_0 (List.mem_of_getElem? (l := ip_u1_0.1) (i := 8) rfl)))⟩
set_option maxRecDepth 100000 in
theorem iy_n_12 : iy_nP (10, 52, 7) := ⟨⟨(ip_t2 (ip_v2_0 (List.mem_of_getElem? (l := ip_u2_0.1) (i := 29) rfl))), (ip_t2 (ip_v2_0 (List.mem_of_getElem? (l := ip_u2_0.1) (i := 30) rfl)))⟩, (ip_t1 (ip_v1_0 (List.mem_of_getElem? (l := ip_u1_0.1) (i := 10) rfl)))⟩
set_option maxRecDepth 100000 in
theorem iy_n_13 : iy_nP (10, 69, 4) := ⟨⟨(ip_t2 (ip_v2_1 (List.mem_of_getElem? (l := ip_u2_1.1) (i := 11) rfl))), (ip_t1 (ip_v1_0 (List.mem_of_getElem? (l := ip_u1_0.1) (i := 30) rfl)))⟩, (ip_t1 (ip_v1_0 (List.mem_of_getElem? (l := ip_u1_0.1) (i := 3) rfl)))⟩
set_option maxRecDepth 100000 in
theorem iy_n_14 : iy_nP (10, 76, 0) := ⟨⟨(ip_t2 (ip_v2_1 (List.mem_of_getElem? (l := ip_u2_1.1) (i := 13) rfl))), (ip_t2 (ip_v2_1 (List.mem_of_getElem? (l := ip_u2_1.1) (i := 14) rfl)))⟩, (ip_t1 (ip_v1_0 (List.mem_of_getElem? (l := ip_u1_0.1) (i := 11) rfl)))⟩
set_option maxRecDepth 100000 in
theorem iy_n_15 : iy_nP (10, 18, 8) := ⟨⟨(ip_t1 (ip_v1_3 (List.mem_of_getElem? (l := ip_u1_3.1) (i := 1) rfl))), (ip_t1 (ip_v1_1 (List.mem_of_getElem? (l := ip_u1_1.1) (i := 9) rfl)))⟩, (ip_t1 (ip_v1_0 (List.mem_of_getElem? (l := ip_u1_0.1) (i := 4) rfl)))⟩
set_option maxRecDepth 100000 in
theorem iy_n_16 : iy_nP (14, 7, 10) := ⟨⟨(ip_t1 (ip_v1_0 (List.mem_of_getElem? (l := ip_u1_0.1) (i := 15) rfl))), (ip_t1 (ip_v1_0 (List.mem_of_getElem? (l := ip_u1_0.1) (i := 16) rfl)))⟩, (ip_t1 (ip_v1_0 (List.mem_of_getElem? (l := ip_u1_0.1) (i := 1) rfl)))⟩
set_option maxRecDepth 100000 in
theorem iy_n_17 : iy_nP (14, 10, 11) := ⟨⟨(ip_t5 (ip_v5_2 (List.mem_of_getElem? (l := ip_u5_2.1) (i := 12) rfl))), (ip_t5 (ip_v5_2 (List.mem_of_getElem? (l := ip_u5_2.1) (i := 13) rfl)))⟩, (ip_t1 (ip_v1_0 (List.mem_of_getElem? (l := ip_u1_0.1) (i := 12) rfl)))⟩
theorem iy_nr_ok : ∀ r ∈ iy_nr, iy_nP r := List.forall_mem_cons.mpr ⟨iy_n_0, List.forall_mem_cons.mpr ⟨iy_n_1, List.forall_mem_cons.mpr ⟨iy_n_2, List.forall_mem_cons.mpr ⟨iy_n_3, List.forall_mem_cons.mpr ⟨iy_n_4, List.forall_mem_cons.mpr ⟨iy_n_5, List.forall_mem_cons.mpr ⟨iy_n_6, List.forall_mem_cons.mpr ⟨iy_n_7, List.forall_mem_cons.mpr ⟨iy_n_8, List.forall_mem_cons.mpr ⟨iy_n_9, List.forall_mem_cons.mpr ⟨iy_n_10, List.forall_mem_cons.mpr ⟨iy_n_11, List.forall_mem_cons.mpr ⟨iy_n_12, List.forall_mem_cons.mpr ⟨iy_n_13, List.forall_mem_cons.mpr ⟨iy_n_14, List.forall_mem_cons.mpr ⟨iy_n_15, List.forall_mem_cons.mpr ⟨iy_n_16, List.forall_mem_cons.mpr ⟨iy_n_17, fun _ h => absurd h List.not_mem_nil⟩⟩⟩⟩⟩⟩⟩⟩⟩⟩⟩⟩⟩⟩⟩⟩⟩⟩
def iy_nf (y n a b : Nat) : Bool := ((iy_nr.any fun r => Nat.beq r.2.2 a && (Nat.beq r.1 (ip_oc y) && Nat.beq r.2.1 n)) && (match ip_cl[a]? with | some q => decide (q.2.2 = b) | none => false)) || (match ip_cl[a]? with | some q => decide (q.2.2 = b) && (decide (.classLink (ip_os y) n q.1 ∈ lw_tbl) && (decide (.instantiable q.1 q.2.2 ∈ lw_tbl) && decide (.initialized q.1 ∈ lw_tbl))) | none => false)
theorem iy_nf_f : iy_nf = fun y n a b => (match ip_cl[a]? with | some q => decide (q.2.2 = b) && (decide (.classLink (ip_os y) n q.1 ∈ lw_tbl) && (decide (.instantiable q.1 q.2.2 ∈ lw_tbl) && decide (.initialized q.1 ∈ lw_tbl))) | none => false) := by
  funext y n a b
  refine iy_orb fun h => ?_
  obtain ⟨h, h5⟩ := iq_an h
  obtain ⟨r, hr, q⟩ := List.any_eq_true.mp h
  obtain ⟨q1, q⟩ := iq_an q
  obtain ⟨q2, q3⟩ := iq_an q
  have e := iy_nr_ok r hr
  unfold iy_nP at e
  rw [Nat.eq_of_beq_eq_true q1, Nat.eq_of_beq_eq_true q2, Nat.eq_of_beq_eq_true q3] at e
  cases hq : ip_cl[a]? with
  | none =>
    rw [hq] at h5
    exact absurd h5 Bool.false_ne_true
  | some q =>
    have e0 : ip_cl.getD a (RX0, TX0, 0) = q := by
      rw [List.getD_eq_getElem?_getD, hq]
      rfl
    rw [hq] at h5
    rw [e0] at e
    obtain ⟨⟨e1, e2⟩, e3⟩ := e
    exact Bool.and_eq_true_iff.mpr ⟨h5, Bool.and_eq_true_iff.mpr ⟨decide_eq_true e1, Bool.and_eq_true_iff.mpr ⟨decide_eq_true e2, decide_eq_true e3⟩⟩⟩
def iy_af (a : Nat) : Bool := Nat.ble (a + 1) 4 || decide (.arrayClass (ip_ty a) ∈ lw_tbl)
set_option maxRecDepth 100000 in
theorem iy_af_f : iy_af = fun a => decide (.arrayClass (ip_ty a) ∈ lw_tbl) := by
  funext a
  refine iy_orb fun h => ?_
  have h := Nat.le_of_ble_eq_true h
  have hc : a = 0 ∨ a = 1 ∨ a = 2 ∨ a = 3 := by omega
  rcases hc with rfl | rfl | rfl | rfl
  · exact decide_eq_true (ip_t1 (ip_v1_5 (List.mem_of_getElem? (l := ip_u1_5.1) (i := 2) rfl)))
  · exact decide_eq_true (ip_t1 (ip_v1_1 (List.mem_of_getElem? (l := ip_u1_1.1) (i := 7) rfl)))
  · exact decide_eq_true (ip_t1 (ip_v1_5 (List.mem_of_getElem? (l := ip_u1_5.1) (i := 3) rfl)))
  · exact decide_eq_true (ip_t2 (ip_v2_0 (List.mem_of_getElem? (l := ip_u2_0.1) (i := 6) rfl)))
def iy_kr : List (Nat × Nat × Nat) := [(3, 9, 5), (10, 18, 4)]
set_option maxRecDepth 100000 in
theorem iy_k_0 : Cond.classLink (ip_own.getD 3 "") 9 (if 5 = 4 then RX8 else RX5) ∈ lw_tbl := (ip_t1 (ip_v1_6 (List.mem_of_getElem? (l := ip_u1_6.1) (i := 20) rfl)))
set_option maxRecDepth 100000 in
theorem iy_k_1 : Cond.classLink (ip_own.getD 10 "") 18 (if 4 = 4 then RX8 else RX5) ∈ lw_tbl := (ip_t1 (ip_v1_3 (List.mem_of_getElem? (l := ip_u1_3.1) (i := 1) rfl)))
theorem iy_kr_ok : ∀ r ∈ iy_kr, Cond.classLink (ip_own.getD r.1 "") r.2.1 (if r.2.2 = 4 then RX8 else RX5) ∈ lw_tbl := List.forall_mem_cons.mpr ⟨iy_k_0, List.forall_mem_cons.mpr ⟨iy_k_1, fun _ h => absurd h List.not_mem_nil⟩⟩
def iy_kf (y n a : Nat) : Bool := (iy_kr.any fun r => Nat.beq r.1 (ip_oc y) && (Nat.beq r.2.1 n && (Nat.beq r.2.2 a))) || decide (Cond.classLink (ip_os y) n (if a = 4 then RX8 else RX5) ∈ lw_tbl)
theorem iy_kf_f : iy_kf = fun y n a => decide (Cond.classLink (ip_os y) n (if a = 4 then RX8 else RX5) ∈ lw_tbl) := by
  funext y n a
  refine iy_orb fun h => ?_
  obtain ⟨r, hr, q⟩ := List.any_eq_true.mp h
  obtain ⟨q1, q⟩ := iq_an q
  obtain ⟨q2, q⟩ := iq_an q
  have e := iy_kr_ok r hr
  rw [Nat.eq_of_beq_eq_true q1, Nat.eq_of_beq_eq_true q2, Nat.eq_of_beq_eq_true q] at e
  exact decide_eq_true e
def iy_or : List (Nat × Nat) := [(0, 3), (1, 3), (2, 1), (3, 3), (4, 3), (5, 3), (6, 3), (7, 3), (8, 3), (9, 3), (10, 3), (11, 1)]
set_option maxRecDepth 100000 in
theorem iy_o_0 : Cond.methodLink (ip_own.getD 0 "") 3 Lib.objectInit ∈ lw_tbl := (ip_t2 (ip_v2_1 (List.mem_of_getElem? (l := ip_u2_1.1) (i := 18) rfl)))
set_option maxRecDepth 100000 in
theorem iy_o_1 : Cond.methodLink (ip_own.getD 1 "") 3 Lib.objectInit ∈ lw_tbl := (ip_t1 (ip_v1_3 (List.mem_of_getElem? (l := ip_u1_3.1) (i := 8) rfl)))
set_option maxRecDepth 100000 in
theorem iy_o_2 : Cond.methodLink (ip_own.getD 2 "") 1 Lib.objectInit ∈ lw_tbl := (ip_t1 (ip_v1_0 (List.mem_of_getElem? (l := ip_u1_0.1) (i := 28) rfl)))
set_option maxRecDepth 100000 in
theorem iy_o_3 : Cond.methodLink (ip_own.getD 3 "") 3 Lib.objectInit ∈ lw_tbl := (ip_t1 (ip_v1_6 (List.mem_of_getElem? (l := ip_u1_6.1) (i := 19) rfl)))
set_option maxRecDepth 100000 in
theorem iy_o_4 : Cond.methodLink (ip_own.getD 4 "") 3 Lib.objectInit ∈ lw_tbl := (ip_t1 (ip_v1_1 (List.mem_of_getElem? (l := ip_u1_1.1) (i := 2) rfl)))
set_option maxRecDepth 100000 in
theorem iy_o_5 : Cond.methodLink (ip_own.getD 5 "") 3 Lib.objectInit ∈ lw_tbl := (ip_t1 (ip_v1_6 (List.mem_of_getElem? (l := ip_u1_6.1) (i := 26) rfl)))
set_option maxRecDepth 100000 in
theorem iy_o_6 : Cond.methodLink (ip_own.getD 6 "") 3 Lib.objectInit ∈ lw_tbl := (ip_t1 (ip_v1_5 (List.mem_of_getElem? (l := ip_u1_5.1) (i := 24) rfl)))
set_option maxRecDepth 100000 in
theorem iy_o_7 : Cond.methodLink (ip_own.getD 7 "") 3 Lib.objectInit ∈ lw_tbl := (ip_t2 (ip_v2_1 (List.mem_of_getElem? (l := ip_u2_1.1) (i := 2) rfl)))
set_option maxRecDepth 100000 in
theorem iy_o_8 : Cond.methodLink (ip_own.getD 8 "") 3 Lib.objectInit ∈ lw_tbl := (ip_t1 (ip_v1_1 (List.mem_of_getElem? (l := ip_u1_1.1) (i := 13) rfl)))
set_option maxRecDepth 100000 in
theorem iy_o_9 : Cond.methodLink (ip_own.getD 9 "") 3 Lib.objectInit ∈ lw_tbl := (ip_t1 (ip_v1_5 (List.mem_of_getElem? (l := ip_u1_5.1) (i := 9) rfl)))
set_option maxRecDepth 100000 in
theorem iy_o_10 : Cond.methodLink (ip_own.getD 10 "") 3 Lib.objectInit ∈ lw_tbl := (ip_t1 (ip_v1_0 (List.mem_of_getElem? (l := ip_u1_0.1) (i := 20) rfl)))
set_option maxRecDepth 100000 in
theorem iy_o_11 : Cond.methodLink (ip_own.getD 11 "") 1 Lib.objectInit ∈ lw_tbl := (ip_t5 (ip_v5_2 (List.mem_of_getElem? (l := ip_u5_2.1) (i := 17) rfl)))
theorem iy_or_ok : ∀ r ∈ iy_or, Cond.methodLink (ip_own.getD r.1 "") r.2 Lib.objectInit ∈ lw_tbl := List.forall_mem_cons.mpr ⟨iy_o_0, List.forall_mem_cons.mpr ⟨iy_o_1, List.forall_mem_cons.mpr ⟨iy_o_2, List.forall_mem_cons.mpr ⟨iy_o_3, List.forall_mem_cons.mpr ⟨iy_o_4, List.forall_mem_cons.mpr ⟨iy_o_5, List.forall_mem_cons.mpr ⟨iy_o_6, List.forall_mem_cons.mpr ⟨iy_o_7, List.forall_mem_cons.mpr ⟨iy_o_8, List.forall_mem_cons.mpr ⟨iy_o_9, List.forall_mem_cons.mpr ⟨iy_o_10, List.forall_mem_cons.mpr ⟨iy_o_11, fun _ h => absurd h List.not_mem_nil⟩⟩⟩⟩⟩⟩⟩⟩⟩⟩⟩⟩
def iy_of (y n : Nat) : Bool := (iy_or.any fun r => Nat.beq r.1 (ip_oc y) && (Nat.beq r.2 n)) || decide (Cond.methodLink (ip_os y) n Lib.objectInit ∈ lw_tbl)
theorem iy_of_f : iy_of = fun y n => decide (Cond.methodLink (ip_os y) n Lib.objectInit ∈ lw_tbl) := by
  funext y n
  refine iy_orb fun h => ?_
  obtain ⟨r, hr, q⟩ := List.any_eq_true.mp h
  obtain ⟨q1, q⟩ := iq_an q
  have e := iy_or_ok r hr
  rw [Nat.eq_of_beq_eq_true q1, Nat.eq_of_beq_eq_true q] at e
  exact decide_eq_true e
def iy_sr : List (Nat × Nat) := [(4, 23), (5, 63), (9, 19)]
set_option maxRecDepth 100000 in
theorem iy_s_0 : Cond.methodLink (ip_own.getD 4 "") 23 arraycopyName ∈ lw_tbl := (ip_t3 (ip_v3_4 (List.mem_of_getElem? (l := ip_u3_4.1) (i := 8) rfl)))
set_option maxRecDepth 100000 in
theorem iy_s_1 : Cond.methodLink (ip_own.getD 5 "") 63 arraycopyName ∈ lw_tbl := (ip_t2 (ip_v2_4 (List.mem_of_getElem? (l := ip_u2_4.1) (i := 26) rfl)))
set_option maxRecDepth 100000 in
theorem iy_s_2 : Cond.methodLink (ip_own.getD 9 "") 19 arraycopyName ∈ lw_tbl := (ip_t2 (ip_v2_4 (List.mem_of_getElem? (l := ip_u2_4.1) (i := 23) rfl)))
theorem iy_sr_ok : ∀ r ∈ iy_sr, Cond.methodLink (ip_own.getD r.1 "") r.2 arraycopyName ∈ lw_tbl := List.forall_mem_cons.mpr ⟨iy_s_0, List.forall_mem_cons.mpr ⟨iy_s_1, List.forall_mem_cons.mpr ⟨iy_s_2, fun _ h => absurd h List.not_mem_nil⟩⟩⟩
def iy_sf (y n : Nat) : Bool := (iy_sr.any fun r => Nat.beq r.1 (ip_oc y) && (Nat.beq r.2 n)) || decide (Cond.methodLink (ip_os y) n arraycopyName ∈ lw_tbl)
theorem iy_sf_f : iy_sf = fun y n => decide (Cond.methodLink (ip_os y) n arraycopyName ∈ lw_tbl) := by
  funext y n
  refine iy_orb fun h => ?_
  obtain ⟨r, hr, q⟩ := List.any_eq_true.mp h
  obtain ⟨q1, q⟩ := iq_an q
  have e := iy_sr_ok r hr
  rw [Nat.eq_of_beq_eq_true q1, Nat.eq_of_beq_eq_true q] at e
  exact decide_eq_true e
def iq_okG (kf : Nat → Option (Nat × Nat × Nat × Nat)) (ff : Nat → Option (Nat × Nat × Nat × Nat × Bool)) (lI : Nat → Nat → Nat → Int32 → Bool) (lL : Nat → Nat → Nat → Int64 → Bool) (nf : Nat → Nat → Nat → Nat → Bool) (af : Nat → Bool) (cf : Nat → Nat → Nat → Bool) (oj sf : Nat → Nat → Bool) (y pc : Nat) (bs : List UInt8) (e : ip_E) : Bool :=
  let nx := e.2.1
  let a := e.2.2.1
  let b := e.2.2.2.1
  let t := e.2.2.2.2.1
  let w := e.2.2.2.2.2.1
  let v := e.2.2.2.2.2.2.1
  let ts := e.2.2.2.2.2.2.2
  match e.1 with
  | .iconst n => iq_dc y pc bs (.iconst n) 1 nx && decide (v = .int (Int32.ofInt n))
  | .bipush n => iq_dc y pc bs (.bipush n) 2 nx && decide (v = .int (Int8.ofInt n).toInt32)
  | .sipush n => iq_dc y pc bs (.sipush n) 3 nx && decide (v = .int (Int16.ofInt n).toInt32)
  | .lconst n => iq_dc y pc bs (.lconst n) 1 nx && decide (v = .long (Int64.ofNat (n : Nat)))
  | .ldc n => iq_dc y pc bs (.ldc n) 2 nx && (match v with | .int x => lI y n w x | _ => false)
  | .ldc_w n => iq_dc y pc bs (.ldc_w n) 3 nx && (match v with | .int x => lI y n w x | _ => false)
  | .ldc2_w n => iq_dc y pc bs (.ldc2_w n) 3 nx && (match v with | .long x => lL y n w x | _ => false)
  | .iload n => iq_dc y pc bs (.iload n) 2 nx && decide (n = a)
  | .lload n => iq_dc y pc bs (.lload n) 2 nx && decide (n = a)
  | .aload n => iq_dc y pc bs (.aload n) 2 nx && decide (n = a)
  | .iload_n n => iq_dc y pc bs (.iload_n n) 1 nx && decide ((n : Nat) = a)
  | .lload_n n => iq_dc y pc bs (.lload_n n) 1 nx && decide ((n : Nat) = a)
  | .aload_n n => iq_dc y pc bs (.aload_n n) 1 nx && decide ((n : Nat) = a)
  | .istore n => iq_dc y pc bs (.istore n) 2 nx && (decide (n = a) && decide (a < ip_ml y))
  | .lstore n => iq_dc y pc bs (.lstore n) 2 nx && (decide (n = a) && decide (a + 1 < ip_ml y))
  | .astore n => iq_dc y pc bs (.astore n) 2 nx && (decide (n = a) && decide (a < ip_ml y))
  | .istore_n n => iq_dc y pc bs (.istore_n n) 1 nx && (decide ((n : Nat) = a) && decide (a < ip_ml y))
  | .lstore_n n => iq_dc y pc bs (.lstore_n n) 1 nx && (decide ((n : Nat) = a) && decide (a + 1 < ip_ml y))
  | .astore_n n => iq_dc y pc bs (.astore_n n) 1 nx && (decide ((n : Nat) = a) && decide (a < ip_ml y))
  | .iinc n k => (iq_dc y pc bs (.iinc n k) 3 nx || iq_dc y pc bs (.iinc n k) 6 nx) && (decide (n = a) && (decide (a < ip_ml y) && decide (v = .int (Int32.ofInt k))))
  | .goto off => iq_d y pc bs (.goto off) 3 && ip_tg pc off a
  | .ifCond c off => iq_dc y pc bs (.ifCond c off) 3 nx && ip_tg pc off a
  | .if_icmp c off => iq_dc y pc bs (.if_icmp c off) 3 nx && ip_tg pc off a
  | .tableswitch d lo hi offs => iq_d y pc bs (.tableswitch d lo hi offs) t && (ip_tg pc d a && (decide (offs.size = ts.length) && (decide ((hi - lo).toNat < ts.length) && (List.range ts.length).all fun i => decide ((pc : Int) + offs.getD i 0 = ((ts.getD i a : Nat) : Int)))))
  | .getfield n => iq_dc y pc bs (.getfield n) 3 nx && (decide (ff w = some (ip_oc y, n, a, b, false) ∨ ff w = some (ip_oc y, n, a, b, true)) && (decide (t = ip_kd (ip_fty a b)) && (match ip_cl[a]? with | some q => decide (b < q.2.2) | none => false)))
  | .putfield n => iq_dc y pc bs (.putfield n) 3 nx && (decide (ff w = some (ip_oc y, n, a, b, false) ∨ ff w = some (ip_oc y, n, a, b, true)) && (decide (t = ip_kd (ip_fty a b)) && ((match ip_cl[a]? with | some q => decide (b < q.2.2) | none => false) &&
      (!(ip_fin a b) || (decide ((ip_nm y).name = "<init>") && (decide (ip_oc y = a) && decide (ff w = some (ip_oc y, n, a, b, false))))))))
  | .new n => iq_dc y pc bs (.new n) 3 nx && nf y n a b
  | .newarray n => iq_dc y pc bs (.newarray n) 2 nx && (decide (newarray.typeOf n = ip_ty a) && (decide (a < 4) && af a))
  | .anewarray n => iq_dc y pc bs (.anewarray n) 3 nx && ((decide (a = 4) || decide (a = 5)) && cf y n a)
  | .invokestatic n => iq_dc y pc bs (.invokestatic n) 3 nx && (if t = 7 then sf y n && (decide (1 ≤ ip_fr y) && decide (8 + (nativeFrameWords "java/lang/System" "arraycopy" 5 + 11) ≤ ip_lw y)) else
      (decide (t = 0 ∨ t = 3) && (decide (kf w = some (ip_oc y, n, a, t)) && (iq_pr a 0 b && (decide (ip_fr a + 1 ≤ ip_fr y) && decide (8 + (ip_ml a + 11) + ip_lw a ≤ ip_lw y))))))
  | .invokevirtual n => iq_dc y pc bs (.invokevirtual n) 3 nx && (decide (t = 1 ∨ t = 4) && (decide (kf w = some (ip_oc y, n, a, t)) && (iq_pr a 1 b && (decide (ip_fr a + 1 ≤ ip_fr y) && decide (8 + (ip_ml a + 11) + ip_lw a ≤ ip_lw y)))))
  | .invokespecial n => iq_dc y pc bs (.invokespecial n) 3 nx && (if t = 6 then oj y n && (decide (1 ≤ ip_fr y) && decide (20 ≤ ip_lw y)) else
      (decide (t = 2 ∨ t = 5) && (decide (kf w = some (ip_oc y, n, a, t)) && (iq_pr a 1 b && (decide (ip_fr a + 1 ≤ ip_fr y) && (decide (8 + (ip_ml a + 11) + ip_lw a ≤ ip_lw y) && (decide ((ip_nm a).name = "<init>") && decide (ip_rt a = none))))))))
  | .ireturn => iq_dc y pc bs .ireturn 1 nx && decide ((t = 0 ∧ ip_rt y = some .int) ∨ (t = 3 ∧ ip_rt y = some .boolean))
  | .lreturn => iq_dc y pc bs .lreturn 1 nx && decide (ip_rt y = some .long)
  | .areturn => iq_dc y pc bs .areturn 1 nx && (match ip_rt y with | some (.object _) => true | _ => false)
  | .return_ => iq_dc y pc bs .return_ 1 nx && decide (ip_rt y = none)
  | i => iq_dc y pc bs i 1 nx
theorem iq_okG_e (y pc : Nat) (bs : List UInt8) (e : ip_E) : iq_okG ip_Kf iy_ff iy_lI iy_lL iy_nf iy_af iy_kf iy_of iy_sf y pc bs e = iq_ok y pc bs e := by
  rw [ip_Kf_f, iy_ff_f, iy_lI_f, iy_lL_f, iy_nf_f, iy_af_f, iy_kf_f, iy_of_f, iy_sf_f]
  rfl
def iq_all (y : Nat) : List (Nat × ip_E) → Nat → List UInt8 → Bool
  | [], _, _ => true
  | q :: t, pc, bs => Nat.ble pc q.1 && (iq_okG ip_Kf iy_ff iy_lI iy_lL iy_nf iy_af iy_kf iy_of iy_sf y q.1 (bs.drop (q.1 - pc)) q.2 && iq_all y t q.1 (bs.drop (q.1 - pc)))
theorem iq_all_ok {y : Nat} : ∀ (l : List (Nat × ip_E)) (pc : Nat) (bs : List UInt8), (ip_by y).data.toList.drop pc = bs → iq_all y l pc bs = true → (l.all fun q => ip_ok y q.1 q.2) = true := by
  intro l
  induction l with
  | nil => intro _ _ _ _; rfl
  | cons q t ih =>
    intro pc bs hd h
    obtain ⟨h1, h2⟩ := iq_an h
    obtain ⟨h2, h3⟩ := iq_an h2
    have hle := Nat.le_of_ble_eq_true h1
    have e : (ip_by y).data.toList.drop q.1 = bs.drop (q.1 - pc) := by
      rw [← hd, List.drop_drop, Nat.add_sub_cancel' hle]
    rw [iq_okG_e] at h2
    rw [List.all_cons, iq_ok_ok e h2, ih q.1 _ e h3]
    rfl
def ip_okl (y : Nat) : Bool := (ip_cs.getD y []).all fun q => ip_ok y q.1 q.2
set_option maxRecDepth 100000 in
theorem ip_o0 : ip_okl 0 = true := iq_all_ok _ 0 _ rfl (show iq_all 0 (ip_cs.getD 0 []) 0 (ip_by 0).data.toList = true by decide +kernel)
set_option maxRecDepth 100000 in
theorem ip_o1 : ip_okl 1 = true := iq_all_ok _ 0 _ rfl (show iq_all 1 (ip_cs.getD 1 []) 0 (ip_by 1).data.toList = true by decide +kernel)
set_option maxRecDepth 100000 in
theorem ip_o2 : ip_okl 2 = true := iq_all_ok _ 0 _ rfl (show iq_all 2 (ip_cs.getD 2 []) 0 (ip_by 2).data.toList = true by decide +kernel)
set_option maxRecDepth 100000 in
theorem ip_o3 : ip_okl 3 = true := iq_all_ok _ 0 _ rfl (show iq_all 3 (ip_cs.getD 3 []) 0 (ip_by 3).data.toList = true by decide +kernel)
set_option maxRecDepth 100000 in
theorem ip_o4 : ip_okl 4 = true := iq_all_ok _ 0 _ rfl (show iq_all 4 (ip_cs.getD 4 []) 0 (ip_by 4).data.toList = true by decide +kernel)
set_option maxRecDepth 100000 in
theorem ip_o5 : ip_okl 5 = true := iq_all_ok _ 0 _ rfl (show iq_all 5 (ip_cs.getD 5 []) 0 (ip_by 5).data.toList = true by decide +kernel)
set_option maxRecDepth 100000 in
theorem ip_o6 : ip_okl 6 = true := iq_all_ok _ 0 _ rfl (show iq_all 6 (ip_cs.getD 6 []) 0 (ip_by 6).data.toList = true by decide +kernel)
set_option maxRecDepth 100000 in
theorem ip_o7 : ip_okl 7 = true := iq_all_ok _ 0 _ rfl (show iq_all 7 (ip_cs.getD 7 []) 0 (ip_by 7).data.toList = true by decide +kernel)
set_option maxRecDepth 100000 in
theorem ip_o8 : ip_okl 8 = true := iq_all_ok _ 0 _ rfl (show iq_all 8 (ip_cs.getD 8 []) 0 (ip_by 8).data.toList = true by decide +kernel)
set_option maxRecDepth 100000 in
theorem ip_o9 : ip_okl 9 = true := iq_all_ok _ 0 _ rfl (show iq_all 9 (ip_cs.getD 9 []) 0 (ip_by 9).data.toList = true by decide +kernel)
set_option maxRecDepth 100000 in
theorem ip_o10 : ip_okl 10 = true := iq_all_ok _ 0 _ rfl (show iq_all 10 (ip_cs.getD 10 []) 0 (ip_by 10).data.toList = true by decide +kernel)
set_option maxRecDepth 100000 in
theorem ip_o11 : ip_okl 11 = true := iq_all_ok _ 0 _ rfl (show iq_all 11 (ip_cs.getD 11 []) 0 (ip_by 11).data.toList = true by decide +kernel)
set_option maxRecDepth 100000 in
theorem ip_o12 : ip_okl 12 = true := iq_all_ok _ 0 _ rfl (show iq_all 12 (ip_cs.getD 12 []) 0 (ip_by 12).data.toList = true by decide +kernel)
set_option maxRecDepth 100000 in
theorem ip_o13 : ip_okl 13 = true := iq_all_ok _ 0 _ rfl (show iq_all 13 (ip_cs.getD 13 []) 0 (ip_by 13).data.toList = true by decide +kernel)
set_option maxRecDepth 100000 in
theorem ip_o14 : ip_okl 14 = true := iq_all_ok _ 0 _ rfl (show iq_all 14 (ip_cs.getD 14 []) 0 (ip_by 14).data.toList = true by decide +kernel)
set_option maxRecDepth 100000 in
theorem ip_o15 : ip_okl 15 = true := iq_all_ok _ 0 _ rfl (show iq_all 15 (ip_cs.getD 15 []) 0 (ip_by 15).data.toList = true by decide +kernel)
set_option maxRecDepth 100000 in
theorem ip_o16 : ip_okl 16 = true := iq_all_ok _ 0 _ rfl (show iq_all 16 (ip_cs.getD 16 []) 0 (ip_by 16).data.toList = true by decide +kernel)
set_option maxRecDepth 100000 in
theorem ip_o17 : ip_okl 17 = true := iq_all_ok _ 0 _ rfl (show iq_all 17 (ip_cs.getD 17 []) 0 (ip_by 17).data.toList = true by decide +kernel)
set_option maxRecDepth 100000 in
theorem ip_o18 : ip_okl 18 = true := iq_all_ok _ 0 _ rfl (show iq_all 18 (ip_cs.getD 18 []) 0 (ip_by 18).data.toList = true by decide +kernel)
set_option maxRecDepth 100000 in
theorem ip_o19 : ip_okl 19 = true := iq_all_ok _ 0 _ rfl (show iq_all 19 (ip_cs.getD 19 []) 0 (ip_by 19).data.toList = true by decide +kernel)
set_option maxRecDepth 100000 in
theorem ip_o20 : ip_okl 20 = true := iq_all_ok _ 0 _ rfl (show iq_all 20 (ip_cs.getD 20 []) 0 (ip_by 20).data.toList = true by decide +kernel)
set_option maxRecDepth 100000 in
theorem ip_o21 : ip_okl 21 = true := iq_all_ok _ 0 _ rfl (show iq_all 21 (ip_cs.getD 21 []) 0 (ip_by 21).data.toList = true by decide +kernel)
set_option maxRecDepth 100000 in
theorem ip_o22 : ip_okl 22 = true := iq_all_ok _ 0 _ rfl (show iq_all 22 (ip_cs.getD 22 []) 0 (ip_by 22).data.toList = true by decide +kernel)
set_option maxRecDepth 100000 in
theorem ip_o23 : ip_okl 23 = true := iq_all_ok _ 0 _ rfl (show iq_all 23 (ip_cs.getD 23 []) 0 (ip_by 23).data.toList = true by decide +kernel)
set_option maxRecDepth 100000 in
theorem ip_o24 : ip_okl 24 = true := iq_all_ok _ 0 _ rfl (show iq_all 24 (ip_cs.getD 24 []) 0 (ip_by 24).data.toList = true by decide +kernel)
set_option maxRecDepth 100000 in
theorem ip_o25 : ip_okl 25 = true := iq_all_ok _ 0 _ rfl (show iq_all 25 (ip_cs.getD 25 []) 0 (ip_by 25).data.toList = true by decide +kernel)
set_option maxRecDepth 100000 in
theorem ip_o26 : ip_okl 26 = true := iq_all_ok _ 0 _ rfl (show iq_all 26 (ip_cs.getD 26 []) 0 (ip_by 26).data.toList = true by decide +kernel)
set_option maxRecDepth 100000 in
theorem ip_o27 : ip_okl 27 = true := iq_all_ok _ 0 _ rfl (show iq_all 27 (ip_cs.getD 27 []) 0 (ip_by 27).data.toList = true by decide +kernel)
set_option maxRecDepth 100000 in
theorem ip_o28 : ip_okl 28 = true := iq_all_ok _ 0 _ rfl (show iq_all 28 (ip_cs.getD 28 []) 0 (ip_by 28).data.toList = true by decide +kernel)
set_option maxRecDepth 100000 in
theorem ip_o29 : ip_okl 29 = true := iq_all_ok _ 0 _ rfl (show iq_all 29 (ip_cs.getD 29 []) 0 (ip_by 29).data.toList = true by decide +kernel)
set_option maxRecDepth 100000 in
theorem ip_o30 : ip_okl 30 = true := iq_all_ok _ 0 _ rfl (show iq_all 30 (ip_cs.getD 30 []) 0 (ip_by 30).data.toList = true by decide +kernel)
set_option maxRecDepth 100000 in
theorem ip_o31 : ip_okl 31 = true := iq_all_ok _ 0 _ rfl (show iq_all 31 (ip_cs.getD 31 []) 0 (ip_by 31).data.toList = true by decide +kernel)
set_option maxRecDepth 100000 in
theorem ip_o32 : ip_okl 32 = true := iq_all_ok _ 0 _ rfl (show iq_all 32 (ip_cs.getD 32 []) 0 (ip_by 32).data.toList = true by decide +kernel)
set_option maxRecDepth 100000 in
theorem ip_o33 : ip_okl 33 = true := iq_all_ok _ 0 _ rfl (show iq_all 33 (ip_cs.getD 33 []) 0 (ip_by 33).data.toList = true by decide +kernel)
set_option maxRecDepth 100000 in
theorem ip_o34 : ip_okl 34 = true := iq_all_ok _ 0 _ rfl (show iq_all 34 (ip_cs.getD 34 []) 0 (ip_by 34).data.toList = true by decide +kernel)
set_option maxRecDepth 100000 in
theorem ip_o35 : ip_okl 35 = true := iq_all_ok _ 0 _ rfl (show iq_all 35 (ip_cs.getD 35 []) 0 (ip_by 35).data.toList = true by decide +kernel)
set_option maxRecDepth 100000 in
theorem ip_o36 : ip_okl 36 = true := iq_all_ok _ 0 _ rfl (show iq_all 36 (ip_cs.getD 36 []) 0 (ip_by 36).data.toList = true by decide +kernel)
set_option maxRecDepth 100000 in
theorem ip_o37 : ip_okl 37 = true := iq_all_ok _ 0 _ rfl (show iq_all 37 (ip_cs.getD 37 []) 0 (ip_by 37).data.toList = true by decide +kernel)
set_option maxRecDepth 100000 in
theorem ip_o38 : ip_okl 38 = true := iq_all_ok _ 0 _ rfl (show iq_all 38 (ip_cs.getD 38 []) 0 (ip_by 38).data.toList = true by decide +kernel)
set_option maxRecDepth 100000 in
theorem ip_o39 : ip_okl 39 = true := iq_all_ok _ 0 _ rfl (show iq_all 39 (ip_cs.getD 39 []) 0 (ip_by 39).data.toList = true by decide +kernel)
set_option maxRecDepth 100000 in
theorem ip_o40 : ip_okl 40 = true := iq_all_ok _ 0 _ rfl (show iq_all 40 (ip_cs.getD 40 []) 0 (ip_by 40).data.toList = true by decide +kernel)
set_option maxRecDepth 100000 in
theorem ip_o41 : ip_okl 41 = true := iq_all_ok _ 0 _ rfl (show iq_all 41 (ip_cs.getD 41 []) 0 (ip_by 41).data.toList = true by decide +kernel)
set_option maxRecDepth 100000 in
theorem ip_o42 : ip_okl 42 = true := iq_all_ok _ 0 _ rfl (show iq_all 42 (ip_cs.getD 42 []) 0 (ip_by 42).data.toList = true by decide +kernel)
set_option maxRecDepth 100000 in
theorem ip_o43 : ip_okl 43 = true := iq_all_ok _ 0 _ rfl (show iq_all 43 (ip_cs.getD 43 []) 0 (ip_by 43).data.toList = true by decide +kernel)
set_option maxRecDepth 100000 in
theorem ip_o44 : ip_okl 44 = true := iq_all_ok _ 0 _ rfl (show iq_all 44 (ip_cs.getD 44 []) 0 (ip_by 44).data.toList = true by decide +kernel)
set_option maxRecDepth 100000 in
theorem ip_o45 : ip_okl 45 = true := iq_all_ok _ 0 _ rfl (show iq_all 45 (ip_cs.getD 45 []) 0 (ip_by 45).data.toList = true by decide +kernel)
set_option maxRecDepth 100000 in
theorem ip_o46 : ip_okl 46 = true := iq_all_ok _ 0 _ rfl (show iq_all 46 (ip_cs.getD 46 []) 0 (ip_by 46).data.toList = true by decide +kernel)
set_option maxRecDepth 100000 in
theorem ip_o47 : ip_okl 47 = true := iq_all_ok _ 0 _ rfl (show iq_all 47 (ip_cs.getD 47 []) 0 (ip_by 47).data.toList = true by decide +kernel)
set_option maxRecDepth 100000 in
theorem ip_o48 : ip_okl 48 = true := iq_all_ok _ 0 _ rfl (show iq_all 48 (ip_cs.getD 48 []) 0 (ip_by 48).data.toList = true by decide +kernel)
set_option maxRecDepth 100000 in
theorem ip_o49 : ip_okl 49 = true := iq_all_ok _ 0 _ rfl (show iq_all 49 (ip_cs.getD 49 []) 0 (ip_by 49).data.toList = true by decide +kernel)
set_option maxRecDepth 100000 in
theorem ip_o50 : ip_okl 50 = true := iq_all_ok _ 0 _ rfl (show iq_all 50 (ip_cs.getD 50 []) 0 (ip_by 50).data.toList = true by decide +kernel)
set_option maxRecDepth 100000 in
theorem ip_o51 : ip_okl 51 = true := iq_all_ok _ 0 _ rfl (show iq_all 51 (ip_cs.getD 51 []) 0 (ip_by 51).data.toList = true by decide +kernel)
set_option maxRecDepth 100000 in
theorem ip_o52 : ip_okl 52 = true := iq_all_ok _ 0 _ rfl (show iq_all 52 (ip_cs.getD 52 []) 0 (ip_by 52).data.toList = true by decide +kernel)
set_option maxRecDepth 100000 in
theorem ip_o53 : ip_okl 53 = true := iq_all_ok _ 0 _ rfl (show iq_all 53 (ip_cs.getD 53 []) 0 (ip_by 53).data.toList = true by decide +kernel)
set_option maxRecDepth 100000 in
theorem ip_o54 : ip_okl 54 = true := iq_all_ok _ 0 _ rfl (show iq_all 54 (ip_cs.getD 54 []) 0 (ip_by 54).data.toList = true by decide +kernel)
set_option maxRecDepth 100000 in
theorem ip_o55 : ip_okl 55 = true := iq_all_ok _ 0 _ rfl (show iq_all 55 (ip_cs.getD 55 []) 0 (ip_by 55).data.toList = true by decide +kernel)
set_option maxRecDepth 100000 in
theorem ip_o56 : ip_okl 56 = true := iq_all_ok _ 0 _ rfl (show iq_all 56 (ip_cs.getD 56 []) 0 (ip_by 56).data.toList = true by decide +kernel)
set_option maxRecDepth 100000 in
theorem ip_o57 : ip_okl 57 = true := iq_all_ok _ 0 _ rfl (show iq_all 57 (ip_cs.getD 57 []) 0 (ip_by 57).data.toList = true by decide +kernel)
set_option maxRecDepth 100000 in
theorem ip_o58 : ip_okl 58 = true := iq_all_ok _ 0 _ rfl (show iq_all 58 (ip_cs.getD 58 []) 0 (ip_by 58).data.toList = true by decide +kernel)
set_option maxRecDepth 100000 in
theorem ip_o59 : ip_okl 59 = true := iq_all_ok _ 0 _ rfl (show iq_all 59 (ip_cs.getD 59 []) 0 (ip_by 59).data.toList = true by decide +kernel)
set_option maxRecDepth 100000 in
theorem ip_o60 : ip_okl 60 = true := iq_all_ok _ 0 _ rfl (show iq_all 60 (ip_cs.getD 60 []) 0 (ip_by 60).data.toList = true by decide +kernel)
set_option maxRecDepth 100000 in
theorem ip_o61 : ip_okl 61 = true := iq_all_ok _ 0 _ rfl (show iq_all 61 (ip_cs.getD 61 []) 0 (ip_by 61).data.toList = true by decide +kernel)
set_option maxRecDepth 100000 in
theorem ip_o62 : ip_okl 62 = true := iq_all_ok _ 0 _ rfl (show iq_all 62 (ip_cs.getD 62 []) 0 (ip_by 62).data.toList = true by decide +kernel)
set_option maxRecDepth 100000 in
theorem ip_o63 : ip_okl 63 = true := iq_all_ok _ 0 _ rfl (show iq_all 63 (ip_cs.getD 63 []) 0 (ip_by 63).data.toList = true by decide +kernel)
set_option maxRecDepth 100000 in
theorem ip_o64 : ip_okl 64 = true := iq_all_ok _ 0 _ rfl (show iq_all 64 (ip_cs.getD 64 []) 0 (ip_by 64).data.toList = true by decide +kernel)
set_option maxRecDepth 100000 in
theorem ip_o65 : ip_okl 65 = true := iq_all_ok _ 0 _ rfl (show iq_all 65 (ip_cs.getD 65 []) 0 (ip_by 65).data.toList = true by decide +kernel)
set_option maxRecDepth 100000 in
theorem ip_o66 : ip_okl 66 = true := iq_all_ok _ 0 _ rfl (show iq_all 66 (ip_cs.getD 66 []) 0 (ip_by 66).data.toList = true by decide +kernel)
set_option maxRecDepth 100000 in
theorem ip_o67 : ip_okl 67 = true := iq_all_ok _ 0 _ rfl (show iq_all 67 (ip_cs.getD 67 []) 0 (ip_by 67).data.toList = true by decide +kernel)
set_option maxRecDepth 100000 in
theorem ip_o68 : ip_okl 68 = true := iq_all_ok _ 0 _ rfl (show iq_all 68 (ip_cs.getD 68 []) 0 (ip_by 68).data.toList = true by decide +kernel)
set_option maxRecDepth 100000 in
theorem ip_o69 : ip_okl 69 = true := iq_all_ok _ 0 _ rfl (show iq_all 69 (ip_cs.getD 69 []) 0 (ip_by 69).data.toList = true by decide +kernel)
set_option maxRecDepth 100000 in
theorem ip_o70 : ip_okl 70 = true := iq_all_ok _ 0 _ rfl (show iq_all 70 (ip_cs.getD 70 []) 0 (ip_by 70).data.toList = true by decide +kernel)
set_option maxRecDepth 100000 in
theorem ip_o71 : ip_okl 71 = true := iq_all_ok _ 0 _ rfl (show iq_all 71 (ip_cs.getD 71 []) 0 (ip_by 71).data.toList = true by decide +kernel)
set_option maxRecDepth 100000 in
theorem ip_o72 : ip_okl 72 = true := iq_all_ok _ 0 _ rfl (show iq_all 72 (ip_cs.getD 72 []) 0 (ip_by 72).data.toList = true by decide +kernel)
set_option maxRecDepth 100000 in
theorem ip_o73 : ip_okl 73 = true := iq_all_ok _ 0 _ rfl (show iq_all 73 (ip_cs.getD 73 []) 0 (ip_by 73).data.toList = true by decide +kernel)
set_option maxRecDepth 100000 in
theorem ip_o74 : ip_okl 74 = true := iq_all_ok _ 0 _ rfl (show iq_all 74 (ip_cs.getD 74 []) 0 (ip_by 74).data.toList = true by decide +kernel)
set_option maxRecDepth 100000 in
theorem ip_o75 : ip_okl 75 = true := iq_all_ok _ 0 _ rfl (show iq_all 75 (ip_cs.getD 75 []) 0 (ip_by 75).data.toList = true by decide +kernel)
set_option maxRecDepth 100000 in
theorem ip_o76 : ip_okl 76 = true := iq_all_ok _ 0 _ rfl (show iq_all 76 (ip_cs.getD 76 []) 0 (ip_by 76).data.toList = true by decide +kernel)
set_option maxRecDepth 100000 in
theorem ip_o77 : ip_okl 77 = true := iq_all_ok _ 0 _ rfl (show iq_all 77 (ip_cs.getD 77 []) 0 (ip_by 77).data.toList = true by decide +kernel)
set_option maxRecDepth 100000 in
theorem ip_o78 : ip_okl 78 = true := iq_all_ok _ 0 _ rfl (show iq_all 78 (ip_cs.getD 78 []) 0 (ip_by 78).data.toList = true by decide +kernel)
set_option maxRecDepth 100000 in
theorem ip_o79 : ip_okl 79 = true := iq_all_ok _ 0 _ rfl (show iq_all 79 (ip_cs.getD 79 []) 0 (ip_by 79).data.toList = true by decide +kernel)
set_option maxRecDepth 100000 in
theorem ip_o80 : ip_okl 80 = true := iq_all_ok _ 0 _ rfl (show iq_all 80 (ip_cs.getD 80 []) 0 (ip_by 80).data.toList = true by decide +kernel)
set_option maxRecDepth 100000 in
theorem ip_o81 : ip_okl 81 = true := iq_all_ok _ 0 _ rfl (show iq_all 81 (ip_cs.getD 81 []) 0 (ip_by 81).data.toList = true by decide +kernel)
set_option maxRecDepth 100000 in
theorem ip_o82 : ip_okl 82 = true := iq_all_ok _ 0 _ rfl (show iq_all 82 (ip_cs.getD 82 []) 0 (ip_by 82).data.toList = true by decide +kernel)
set_option maxRecDepth 100000 in
theorem ip_o83 : ip_okl 83 = true := iq_all_ok _ 0 _ rfl (show iq_all 83 (ip_cs.getD 83 []) 0 (ip_by 83).data.toList = true by decide +kernel)
set_option maxRecDepth 100000 in
theorem ip_o84 : ip_okl 84 = true := iq_all_ok _ 0 _ rfl (show iq_all 84 (ip_cs.getD 84 []) 0 (ip_by 84).data.toList = true by decide +kernel)
set_option maxRecDepth 100000 in
theorem ip_o85 : ip_okl 85 = true := iq_all_ok _ 0 _ rfl (show iq_all 85 (ip_cs.getD 85 []) 0 (ip_by 85).data.toList = true by decide +kernel)
set_option maxRecDepth 100000 in
theorem ip_o86 : ip_okl 86 = true := iq_all_ok _ 0 _ rfl (show iq_all 86 (ip_cs.getD 86 []) 0 (ip_by 86).data.toList = true by decide +kernel)
set_option maxRecDepth 100000 in
theorem ip_o87 : ip_okl 87 = true := iq_all_ok _ 0 _ rfl (show iq_all 87 (ip_cs.getD 87 []) 0 (ip_by 87).data.toList = true by decide +kernel)
set_option maxRecDepth 100000 in
theorem ip_o88 : ip_okl 88 = true := iq_all_ok _ 0 _ rfl (show iq_all 88 (ip_cs.getD 88 []) 0 (ip_by 88).data.toList = true by decide +kernel)
set_option maxRecDepth 100000 in
theorem ip_o89 : ip_okl 89 = true := iq_all_ok _ 0 _ rfl (show iq_all 89 (ip_cs.getD 89 []) 0 (ip_by 89).data.toList = true by decide +kernel)
set_option maxRecDepth 100000 in
theorem ip_o90 : ip_okl 90 = true := iq_all_ok _ 0 _ rfl (show iq_all 90 (ip_cs.getD 90 []) 0 (ip_by 90).data.toList = true by decide +kernel)
set_option maxRecDepth 100000 in
theorem ip_o91 : ip_okl 91 = true := iq_all_ok _ 0 _ rfl (show iq_all 91 (ip_cs.getD 91 []) 0 (ip_by 91).data.toList = true by decide +kernel)
set_option maxRecDepth 100000 in
theorem ip_o92 : ip_okl 92 = true := iq_all_ok _ 0 _ rfl (show iq_all 92 (ip_cs.getD 92 []) 0 (ip_by 92).data.toList = true by decide +kernel)
set_option maxRecDepth 100000 in
theorem ip_o93 : ip_okl 93 = true := iq_all_ok _ 0 _ rfl (show iq_all 93 (ip_cs.getD 93 []) 0 (ip_by 93).data.toList = true by decide +kernel)
set_option maxRecDepth 100000 in
theorem ip_o94 : ip_okl 94 = true := iq_all_ok _ 0 _ rfl (show iq_all 94 (ip_cs.getD 94 []) 0 (ip_by 94).data.toList = true by decide +kernel)
set_option maxRecDepth 100000 in
theorem ip_o95 : ip_okl 95 = true := iq_all_ok _ 0 _ rfl (show iq_all 95 (ip_cs.getD 95 []) 0 (ip_by 95).data.toList = true by decide +kernel)
set_option maxRecDepth 100000 in
theorem ip_o96 : ip_okl 96 = true := iq_all_ok _ 0 _ rfl (show iq_all 96 (ip_cs.getD 96 []) 0 (ip_by 96).data.toList = true by decide +kernel)
set_option maxRecDepth 100000 in
theorem ip_o97 : ip_okl 97 = true := iq_all_ok _ 0 _ rfl (show iq_all 97 (ip_cs.getD 97 []) 0 (ip_by 97).data.toList = true by decide +kernel)
set_option maxRecDepth 100000 in
theorem ip_o98 : ip_okl 98 = true := iq_all_ok _ 0 _ rfl (show iq_all 98 (ip_cs.getD 98 []) 0 (ip_by 98).data.toList = true by decide +kernel)
set_option maxRecDepth 100000 in
theorem ip_o99 : ip_okl 99 = true := iq_all_ok _ 0 _ rfl (show iq_all 99 (ip_cs.getD 99 []) 0 (ip_by 99).data.toList = true by decide +kernel)
set_option maxRecDepth 100000 in
theorem ip_o100 : ip_okl 100 = true := iq_all_ok _ 0 _ rfl (show iq_all 100 (ip_cs.getD 100 []) 0 (ip_by 100).data.toList = true by decide +kernel)
set_option maxRecDepth 100000 in
theorem ip_o101 : ip_okl 101 = true := iq_all_ok _ 0 _ rfl (show iq_all 101 (ip_cs.getD 101 []) 0 (ip_by 101).data.toList = true by decide +kernel)
set_option maxRecDepth 100000 in
theorem ip_o102 : ip_okl 102 = true := iq_all_ok _ 0 _ rfl (show iq_all 102 (ip_cs.getD 102 []) 0 (ip_by 102).data.toList = true by decide +kernel)
set_option maxRecDepth 100000 in
theorem ip_o103 : ip_okl 103 = true := iq_all_ok _ 0 _ rfl (show iq_all 103 (ip_cs.getD 103 []) 0 (ip_by 103).data.toList = true by decide +kernel)
set_option maxRecDepth 100000 in
theorem ip_o104 : ip_okl 104 = true := iq_all_ok _ 0 _ rfl (show iq_all 104 (ip_cs.getD 104 []) 0 (ip_by 104).data.toList = true by decide +kernel)
set_option maxRecDepth 100000 in
theorem ip_o105 : ip_okl 105 = true := iq_all_ok _ 0 _ rfl (show iq_all 105 (ip_cs.getD 105 []) 0 (ip_by 105).data.toList = true by decide +kernel)
set_option maxRecDepth 100000 in
theorem ip_o106 : ip_okl 106 = true := iq_all_ok _ 0 _ rfl (show iq_all 106 (ip_cs.getD 106 []) 0 (ip_by 106).data.toList = true by decide +kernel)
set_option maxRecDepth 100000 in
theorem ip_o107 : ip_okl 107 = true := iq_all_ok _ 0 _ rfl (show iq_all 107 (ip_cs.getD 107 []) 0 (ip_by 107).data.toList = true by decide +kernel)
set_option maxRecDepth 100000 in
theorem ip_o108 : ip_okl 108 = true := iq_all_ok _ 0 _ rfl (show iq_all 108 (ip_cs.getD 108 []) 0 (ip_by 108).data.toList = true by decide +kernel)
set_option maxRecDepth 100000 in
theorem ip_o109 : ip_okl 109 = true := iq_all_ok _ 0 _ rfl (show iq_all 109 (ip_cs.getD 109 []) 0 (ip_by 109).data.toList = true by decide +kernel)
set_option maxRecDepth 100000 in
theorem ip_o110 : ip_okl 110 = true := iq_all_ok _ 0 _ rfl (show iq_all 110 (ip_cs.getD 110 []) 0 (ip_by 110).data.toList = true by decide +kernel)
set_option maxRecDepth 100000 in
theorem ip_o111 : ip_okl 111 = true := iq_all_ok _ 0 _ rfl (show iq_all 111 (ip_cs.getD 111 []) 0 (ip_by 111).data.toList = true by decide +kernel)
set_option maxRecDepth 100000 in
theorem ip_o112 : ip_okl 112 = true := iq_all_ok _ 0 _ rfl (show iq_all 112 (ip_cs.getD 112 []) 0 (ip_by 112).data.toList = true by decide +kernel)
set_option maxRecDepth 100000 in
theorem ip_o113 : ip_okl 113 = true := iq_all_ok _ 0 _ rfl (show iq_all 113 (ip_cs.getD 113 []) 0 (ip_by 113).data.toList = true by decide +kernel)
set_option maxRecDepth 100000 in
theorem ip_o114 : ip_okl 114 = true := iq_all_ok _ 0 _ rfl (show iq_all 114 (ip_cs.getD 114 []) 0 (ip_by 114).data.toList = true by decide +kernel)
set_option maxRecDepth 100000 in
theorem ip_o115 : ip_okl 115 = true := iq_all_ok _ 0 _ rfl (show iq_all 115 (ip_cs.getD 115 []) 0 (ip_by 115).data.toList = true by decide +kernel)
set_option maxRecDepth 100000 in
theorem ip_o116 : ip_okl 116 = true := iq_all_ok _ 0 _ rfl (show iq_all 116 (ip_cs.getD 116 []) 0 (ip_by 116).data.toList = true by decide +kernel)
set_option maxRecDepth 100000 in
theorem ip_o117 : ip_okl 117 = true := iq_all_ok _ 0 _ rfl (show iq_all 117 (ip_cs.getD 117 []) 0 (ip_by 117).data.toList = true by decide +kernel)
set_option maxRecDepth 100000 in
theorem ip_o118 : ip_okl 118 = true := iq_all_ok _ 0 _ rfl (show iq_all 118 (ip_cs.getD 118 []) 0 (ip_by 118).data.toList = true by decide +kernel)
set_option maxRecDepth 100000 in
theorem ip_o119 : ip_okl 119 = true := iq_all_ok _ 0 _ rfl (show iq_all 119 (ip_cs.getD 119 []) 0 (ip_by 119).data.toList = true by decide +kernel)
set_option maxRecDepth 100000 in
theorem ip_o120 : ip_okl 120 = true := iq_all_ok _ 0 _ rfl (show iq_all 120 (ip_cs.getD 120 []) 0 (ip_by 120).data.toList = true by decide +kernel)
set_option maxRecDepth 100000 in
theorem ip_o121 : ip_okl 121 = true := iq_all_ok _ 0 _ rfl (show iq_all 121 (ip_cs.getD 121 []) 0 (ip_by 121).data.toList = true by decide +kernel)
set_option maxRecDepth 100000 in
theorem ip_o122 : ip_okl 122 = true := iq_all_ok _ 0 _ rfl (show iq_all 122 (ip_cs.getD 122 []) 0 (ip_by 122).data.toList = true by decide +kernel)
set_option maxRecDepth 100000 in
theorem ip_o123 : ip_okl 123 = true := iq_all_ok _ 0 _ rfl (show iq_all 123 (ip_cs.getD 123 []) 0 (ip_by 123).data.toList = true by decide +kernel)
set_option maxRecDepth 100000 in
theorem ip_o124 : ip_okl 124 = true := iq_all_ok _ 0 _ rfl (show iq_all 124 (ip_cs.getD 124 []) 0 (ip_by 124).data.toList = true by decide +kernel)
set_option maxRecDepth 100000 in
theorem ip_o125 : ip_okl 125 = true := iq_all_ok _ 0 _ rfl (show iq_all 125 (ip_cs.getD 125 []) 0 (ip_by 125).data.toList = true by decide +kernel)
set_option maxRecDepth 100000 in
theorem ip_o126 : ip_okl 126 = true := iq_all_ok _ 0 _ rfl (show iq_all 126 (ip_cs.getD 126 []) 0 (ip_by 126).data.toList = true by decide +kernel)
set_option maxRecDepth 100000 in
theorem ip_o127 : ip_okl 127 = true := iq_all_ok _ 0 _ rfl (show iq_all 127 (ip_cs.getD 127 []) 0 (ip_by 127).data.toList = true by decide +kernel)
set_option maxRecDepth 100000 in
theorem ip_o128 : ip_okl 128 = true := iq_all_ok _ 0 _ rfl (show iq_all 128 (ip_cs.getD 128 []) 0 (ip_by 128).data.toList = true by decide +kernel)
set_option maxRecDepth 100000 in
theorem ip_o129 : ip_okl 129 = true := iq_all_ok _ 0 _ rfl (show iq_all 129 (ip_cs.getD 129 []) 0 (ip_by 129).data.toList = true by decide +kernel)
set_option maxRecDepth 100000 in
theorem ip_o130 : ip_okl 130 = true := iq_all_ok _ 0 _ rfl (show iq_all 130 (ip_cs.getD 130 []) 0 (ip_by 130).data.toList = true by decide +kernel)
set_option maxRecDepth 100000 in
theorem ip_o131 : ip_okl 131 = true := iq_all_ok _ 0 _ rfl (show iq_all 131 (ip_cs.getD 131 []) 0 (ip_by 131).data.toList = true by decide +kernel)
set_option maxRecDepth 100000 in
theorem ip_o132 : ip_okl 132 = true := iq_all_ok _ 0 _ rfl (show iq_all 132 (ip_cs.getD 132 []) 0 (ip_by 132).data.toList = true by decide +kernel)
set_option maxRecDepth 100000 in
theorem ip_o133 : ip_okl 133 = true := iq_all_ok _ 0 _ rfl (show iq_all 133 (ip_cs.getD 133 []) 0 (ip_by 133).data.toList = true by decide +kernel)
set_option maxRecDepth 100000 in
theorem ip_o134 : ip_okl 134 = true := iq_all_ok _ 0 _ rfl (show iq_all 134 (ip_cs.getD 134 []) 0 (ip_by 134).data.toList = true by decide +kernel)
set_option maxRecDepth 100000 in
theorem ip_o135 : ip_okl 135 = true := iq_all_ok _ 0 _ rfl (show iq_all 135 (ip_cs.getD 135 []) 0 (ip_by 135).data.toList = true by decide +kernel)
set_option maxRecDepth 100000 in
theorem ip_o136 : ip_okl 136 = true := iq_all_ok _ 0 _ rfl (show iq_all 136 (ip_cs.getD 136 []) 0 (ip_by 136).data.toList = true by decide +kernel)
set_option maxRecDepth 100000 in
theorem ip_o137 : ip_okl 137 = true := iq_all_ok _ 0 _ rfl (show iq_all 137 (ip_cs.getD 137 []) 0 (ip_by 137).data.toList = true by decide +kernel)
set_option maxRecDepth 100000 in
theorem ip_o138 : ip_okl 138 = true := iq_all_ok _ 0 _ rfl (show iq_all 138 (ip_cs.getD 138 []) 0 (ip_by 138).data.toList = true by decide +kernel)
set_option maxRecDepth 100000 in
theorem ip_o139 : ip_okl 139 = true := iq_all_ok _ 0 _ rfl (show iq_all 139 (ip_cs.getD 139 []) 0 (ip_by 139).data.toList = true by decide +kernel)
set_option maxRecDepth 100000 in
theorem ip_o140 : ip_okl 140 = true := iq_all_ok _ 0 _ rfl (show iq_all 140 (ip_cs.getD 140 []) 0 (ip_by 140).data.toList = true by decide +kernel)
set_option maxRecDepth 100000 in
theorem ip_o141 : ip_okl 141 = true := iq_all_ok _ 0 _ rfl (show iq_all 141 (ip_cs.getD 141 []) 0 (ip_by 141).data.toList = true by decide +kernel)
set_option maxRecDepth 100000 in
theorem ip_o142 : ip_okl 142 = true := iq_all_ok _ 0 _ rfl (show iq_all 142 (ip_cs.getD 142 []) 0 (ip_by 142).data.toList = true by decide +kernel)
set_option maxRecDepth 100000 in
theorem ip_o143 : ip_okl 143 = true := iq_all_ok _ 0 _ rfl (show iq_all 143 (ip_cs.getD 143 []) 0 (ip_by 143).data.toList = true by decide +kernel)
set_option maxRecDepth 100000 in
theorem ip_o144 : ip_okl 144 = true := iq_all_ok _ 0 _ rfl (show iq_all 144 (ip_cs.getD 144 []) 0 (ip_by 144).data.toList = true by decide +kernel)
set_option maxRecDepth 100000 in
theorem ip_o145 : ip_okl 145 = true := iq_all_ok _ 0 _ rfl (show iq_all 145 (ip_cs.getD 145 []) 0 (ip_by 145).data.toList = true by decide +kernel)
set_option maxRecDepth 100000 in
theorem ip_o146 : ip_okl 146 = true := iq_all_ok _ 0 _ rfl (show iq_all 146 (ip_cs.getD 146 []) 0 (ip_by 146).data.toList = true by decide +kernel)
set_option maxRecDepth 100000 in
theorem ip_o147 : ip_okl 147 = true := iq_all_ok _ 0 _ rfl (show iq_all 147 (ip_cs.getD 147 []) 0 (ip_by 147).data.toList = true by decide +kernel)
set_option maxRecDepth 100000 in
theorem ip_o148 : ip_okl 148 = true := iq_all_ok _ 0 _ rfl (show iq_all 148 (ip_cs.getD 148 []) 0 (ip_by 148).data.toList = true by decide +kernel)
set_option maxRecDepth 100000 in
theorem ip_o149 : ip_okl 149 = true := iq_all_ok _ 0 _ rfl (show iq_all 149 (ip_cs.getD 149 []) 0 (ip_by 149).data.toList = true by decide +kernel)
set_option maxRecDepth 100000 in
theorem ip_o150 : ip_okl 150 = true := iq_all_ok _ 0 _ rfl (show iq_all 150 (ip_cs.getD 150 []) 0 (ip_by 150).data.toList = true by decide +kernel)
set_option maxRecDepth 100000 in
theorem ip_o151 : ip_okl 151 = true := iq_all_ok _ 0 _ rfl (show iq_all 151 (ip_cs.getD 151 []) 0 (ip_by 151).data.toList = true by decide +kernel)
set_option maxRecDepth 100000 in
theorem ip_o152 : ip_okl 152 = true := iq_all_ok _ 0 _ rfl (show iq_all 152 (ip_cs.getD 152 []) 0 (ip_by 152).data.toList = true by decide +kernel)
set_option maxRecDepth 100000 in
theorem ip_o153 : ip_okl 153 = true := iq_all_ok _ 0 _ rfl (show iq_all 153 (ip_cs.getD 153 []) 0 (ip_by 153).data.toList = true by decide +kernel)
set_option maxRecDepth 100000 in
theorem ip_o154 : ip_okl 154 = true := iq_all_ok _ 0 _ rfl (show iq_all 154 (ip_cs.getD 154 []) 0 (ip_by 154).data.toList = true by decide +kernel)
set_option maxRecDepth 100000 in
theorem ip_o155 : ip_okl 155 = true := iq_all_ok _ 0 _ rfl (show iq_all 155 (ip_cs.getD 155 []) 0 (ip_by 155).data.toList = true by decide +kernel)
set_option maxRecDepth 100000 in
theorem ip_o156 : ip_okl 156 = true := iq_all_ok _ 0 _ rfl (show iq_all 156 (ip_cs.getD 156 []) 0 (ip_by 156).data.toList = true by decide +kernel)
set_option maxRecDepth 100000 in
theorem ip_o157 : ip_okl 157 = true := iq_all_ok _ 0 _ rfl (show iq_all 157 (ip_cs.getD 157 []) 0 (ip_by 157).data.toList = true by decide +kernel)
set_option maxRecDepth 100000 in
theorem ip_o158 : ip_okl 158 = true := iq_all_ok _ 0 _ rfl (show iq_all 158 (ip_cs.getD 158 []) 0 (ip_by 158).data.toList = true by decide +kernel)
set_option maxRecDepth 100000 in
theorem ip_o159 : ip_okl 159 = true := iq_all_ok _ 0 _ rfl (show iq_all 159 (ip_cs.getD 159 []) 0 (ip_by 159).data.toList = true by decide +kernel)
set_option maxRecDepth 100000 in
theorem ip_o160 : ip_okl 160 = true := iq_all_ok _ 0 _ rfl (show iq_all 160 (ip_cs.getD 160 []) 0 (ip_by 160).data.toList = true by decide +kernel)
set_option maxRecDepth 100000 in
theorem ip_o161 : ip_okl 161 = true := iq_all_ok _ 0 _ rfl (show iq_all 161 (ip_cs.getD 161 []) 0 (ip_by 161).data.toList = true by decide +kernel)
set_option maxRecDepth 100000 in
theorem ip_o162 : ip_okl 162 = true := iq_all_ok _ 0 _ rfl (show iq_all 162 (ip_cs.getD 162 []) 0 (ip_by 162).data.toList = true by decide +kernel)
set_option maxRecDepth 100000 in
theorem ip_o163 : ip_okl 163 = true := iq_all_ok _ 0 _ rfl (show iq_all 163 (ip_cs.getD 163 []) 0 (ip_by 163).data.toList = true by decide +kernel)
set_option maxRecDepth 100000 in
theorem ip_o164 : ip_okl 164 = true := iq_all_ok _ 0 _ rfl (show iq_all 164 (ip_cs.getD 164 []) 0 (ip_by 164).data.toList = true by decide +kernel)
set_option maxRecDepth 100000 in
theorem ip_o165 : ip_okl 165 = true := iq_all_ok _ 0 _ rfl (show iq_all 165 (ip_cs.getD 165 []) 0 (ip_by 165).data.toList = true by decide +kernel)
set_option maxRecDepth 100000 in
theorem ip_o166 : ip_okl 166 = true := iq_all_ok _ 0 _ rfl (show iq_all 166 (ip_cs.getD 166 []) 0 (ip_by 166).data.toList = true by decide +kernel)
set_option maxRecDepth 100000 in
theorem ip_o167 : ip_okl 167 = true := iq_all_ok _ 0 _ rfl (show iq_all 167 (ip_cs.getD 167 []) 0 (ip_by 167).data.toList = true by decide +kernel)
set_option maxRecDepth 100000 in
theorem ip_o168 : ip_okl 168 = true := iq_all_ok _ 0 _ rfl (show iq_all 168 (ip_cs.getD 168 []) 0 (ip_by 168).data.toList = true by decide +kernel)
set_option maxRecDepth 100000 in
theorem ip_o169 : ip_okl 169 = true := iq_all_ok _ 0 _ rfl (show iq_all 169 (ip_cs.getD 169 []) 0 (ip_by 169).data.toList = true by decide +kernel)
set_option maxRecDepth 100000 in
theorem ip_o170 : ip_okl 170 = true := iq_all_ok _ 0 _ rfl (show iq_all 170 (ip_cs.getD 170 []) 0 (ip_by 170).data.toList = true by decide +kernel)
set_option maxRecDepth 100000 in
theorem ip_o171 : ip_okl 171 = true := iq_all_ok _ 0 _ rfl (show iq_all 171 (ip_cs.getD 171 []) 0 (ip_by 171).data.toList = true by decide +kernel)
set_option maxRecDepth 100000 in
theorem ip_o172 : ip_okl 172 = true := iq_all_ok _ 0 _ rfl (show iq_all 172 (ip_cs.getD 172 []) 0 (ip_by 172).data.toList = true by decide +kernel)
set_option maxRecDepth 100000 in
theorem ip_o173 : ip_okl 173 = true := iq_all_ok _ 0 _ rfl (show iq_all 173 (ip_cs.getD 173 []) 0 (ip_by 173).data.toList = true by decide +kernel)
set_option maxRecDepth 100000 in
theorem ip_o174 : ip_okl 174 = true := iq_all_ok _ 0 _ rfl (show iq_all 174 (ip_cs.getD 174 []) 0 (ip_by 174).data.toList = true by decide +kernel)
set_option maxRecDepth 100000 in
theorem ip_o175 : ip_okl 175 = true := iq_all_ok _ 0 _ rfl (show iq_all 175 (ip_cs.getD 175 []) 0 (ip_by 175).data.toList = true by decide +kernel)
set_option maxRecDepth 100000 in
theorem ip_o176 : ip_okl 176 = true := iq_all_ok _ 0 _ rfl (show iq_all 176 (ip_cs.getD 176 []) 0 (ip_by 176).data.toList = true by decide +kernel)
set_option maxRecDepth 100000 in
theorem ip_o177 : ip_okl 177 = true := iq_all_ok _ 0 _ rfl (show iq_all 177 (ip_cs.getD 177 []) 0 (ip_by 177).data.toList = true by decide +kernel)
set_option maxRecDepth 100000 in
theorem ip_o178 : ip_okl 178 = true := iq_all_ok _ 0 _ rfl (show iq_all 178 (ip_cs.getD 178 []) 0 (ip_by 178).data.toList = true by decide +kernel)
set_option maxRecDepth 100000 in
theorem ip_o179 : ip_okl 179 = true := iq_all_ok _ 0 _ rfl (show iq_all 179 (ip_cs.getD 179 []) 0 (ip_by 179).data.toList = true by decide +kernel)
set_option maxRecDepth 100000 in
theorem ip_o180 : ip_okl 180 = true := iq_all_ok _ 0 _ rfl (show iq_all 180 (ip_cs.getD 180 []) 0 (ip_by 180).data.toList = true by decide +kernel)
set_option maxRecDepth 100000 in
theorem ip_o181 : ip_okl 181 = true := iq_all_ok _ 0 _ rfl (show iq_all 181 (ip_cs.getD 181 []) 0 (ip_by 181).data.toList = true by decide +kernel)
set_option maxRecDepth 100000 in
theorem ip_o182 : ip_okl 182 = true := iq_all_ok _ 0 _ rfl (show iq_all 182 (ip_cs.getD 182 []) 0 (ip_by 182).data.toList = true by decide +kernel)
set_option maxRecDepth 100000 in
theorem ip_o183 : ip_okl 183 = true := iq_all_ok _ 0 _ rfl (show iq_all 183 (ip_cs.getD 183 []) 0 (ip_by 183).data.toList = true by decide +kernel)
set_option maxRecDepth 100000 in
theorem ip_o184 : ip_okl 184 = true := iq_all_ok _ 0 _ rfl (show iq_all 184 (ip_cs.getD 184 []) 0 (ip_by 184).data.toList = true by decide +kernel)
set_option maxRecDepth 100000 in
theorem ip_o185 : ip_okl 185 = true := iq_all_ok _ 0 _ rfl (show iq_all 185 (ip_cs.getD 185 []) 0 (ip_by 185).data.toList = true by decide +kernel)
set_option maxRecDepth 100000 in
theorem ip_o186 : ip_okl 186 = true := iq_all_ok _ 0 _ rfl (show iq_all 186 (ip_cs.getD 186 []) 0 (ip_by 186).data.toList = true by decide +kernel)
set_option maxRecDepth 100000 in
theorem ip_o187 : ip_okl 187 = true := iq_all_ok _ 0 _ rfl (show iq_all 187 (ip_cs.getD 187 []) 0 (ip_by 187).data.toList = true by decide +kernel)
set_option maxRecDepth 100000 in
theorem ip_o188 : ip_okl 188 = true := iq_all_ok _ 0 _ rfl (show iq_all 188 (ip_cs.getD 188 []) 0 (ip_by 188).data.toList = true by decide +kernel)
set_option maxRecDepth 100000 in
theorem ip_o189 : ip_okl 189 = true := iq_all_ok _ 0 _ rfl (show iq_all 189 (ip_cs.getD 189 []) 0 (ip_by 189).data.toList = true by decide +kernel)
set_option maxRecDepth 100000 in
theorem ip_o190 : ip_okl 190 = true := iq_all_ok _ 0 _ rfl (show iq_all 190 (ip_cs.getD 190 []) 0 (ip_by 190).data.toList = true by decide +kernel)
set_option maxRecDepth 100000 in
theorem ip_o191 : ip_okl 191 = true := iq_all_ok _ 0 _ rfl (show iq_all 191 (ip_cs.getD 191 []) 0 (ip_by 191).data.toList = true by decide +kernel)
set_option maxRecDepth 100000 in
theorem ip_o192 : ip_okl 192 = true := iq_all_ok _ 0 _ rfl (show iq_all 192 (ip_cs.getD 192 []) 0 (ip_by 192).data.toList = true by decide +kernel)
set_option maxRecDepth 100000 in
theorem ip_o193 : ip_okl 193 = true := iq_all_ok _ 0 _ rfl (show iq_all 193 (ip_cs.getD 193 []) 0 (ip_by 193).data.toList = true by decide +kernel)
set_option maxRecDepth 100000 in
theorem ip_o194 : ip_okl 194 = true := iq_all_ok _ 0 _ rfl (show iq_all 194 (ip_cs.getD 194 []) 0 (ip_by 194).data.toList = true by decide +kernel)
set_option maxRecDepth 100000 in
theorem ip_o195 : ip_okl 195 = true := iq_all_ok _ 0 _ rfl (show iq_all 195 (ip_cs.getD 195 []) 0 (ip_by 195).data.toList = true by decide +kernel)
set_option maxRecDepth 100000 in
theorem ip_o196 : ip_okl 196 = true := iq_all_ok _ 0 _ rfl (show iq_all 196 (ip_cs.getD 196 []) 0 (ip_by 196).data.toList = true by decide +kernel)
set_option maxRecDepth 100000 in
theorem ip_o197 : ip_okl 197 = true := iq_all_ok _ 0 _ rfl (show iq_all 197 (ip_cs.getD 197 []) 0 (ip_by 197).data.toList = true by decide +kernel)
set_option maxRecDepth 100000 in
theorem ip_o198 : ip_okl 198 = true := iq_all_ok _ 0 _ rfl (show iq_all 198 (ip_cs.getD 198 []) 0 (ip_by 198).data.toList = true by decide +kernel)
set_option maxRecDepth 100000 in
theorem ip_o199 : ip_okl 199 = true := iq_all_ok _ 0 _ rfl (show iq_all 199 (ip_cs.getD 199 []) 0 (ip_by 199).data.toList = true by decide +kernel)
set_option maxRecDepth 100000 in
theorem ip_o200 : ip_okl 200 = true := iq_all_ok _ 0 _ rfl (show iq_all 200 (ip_cs.getD 200 []) 0 (ip_by 200).data.toList = true by decide +kernel)
set_option maxRecDepth 100000 in
theorem ip_o201 : ip_okl 201 = true := iq_all_ok _ 0 _ rfl (show iq_all 201 (ip_cs.getD 201 []) 0 (ip_by 201).data.toList = true by decide +kernel)
set_option maxRecDepth 100000 in
theorem ip_o202 : ip_okl 202 = true := iq_all_ok _ 0 _ rfl (show iq_all 202 (ip_cs.getD 202 []) 0 (ip_by 202).data.toList = true by decide +kernel)
set_option maxRecDepth 100000 in
theorem ip_o203 : ip_okl 203 = true := iq_all_ok _ 0 _ rfl (show iq_all 203 (ip_cs.getD 203 []) 0 (ip_by 203).data.toList = true by decide +kernel)
set_option maxRecDepth 100000 in
theorem ip_o204 : ip_okl 204 = true := iq_all_ok _ 0 _ rfl (show iq_all 204 (ip_cs.getD 204 []) 0 (ip_by 204).data.toList = true by decide +kernel)
set_option maxRecDepth 100000 in
theorem ip_o205 : ip_okl 205 = true := iq_all_ok _ 0 _ rfl (show iq_all 205 (ip_cs.getD 205 []) 0 (ip_by 205).data.toList = true by decide +kernel)
set_option maxRecDepth 100000 in
theorem ip_o206 : ip_okl 206 = true := iq_all_ok _ 0 _ rfl (show iq_all 206 (ip_cs.getD 206 []) 0 (ip_by 206).data.toList = true by decide +kernel)
set_option maxRecDepth 100000 in
theorem ip_o207 : ip_okl 207 = true := iq_all_ok _ 0 _ rfl (show iq_all 207 (ip_cs.getD 207 []) 0 (ip_by 207).data.toList = true by decide +kernel)
set_option maxRecDepth 100000 in
theorem ip_o208 : ip_okl 208 = true := iq_all_ok _ 0 _ rfl (show iq_all 208 (ip_cs.getD 208 []) 0 (ip_by 208).data.toList = true by decide +kernel)
set_option maxRecDepth 100000 in
theorem ip_o209 : ip_okl 209 = true := iq_all_ok _ 0 _ rfl (show iq_all 209 (ip_cs.getD 209 []) 0 (ip_by 209).data.toList = true by decide +kernel)
set_option maxRecDepth 100000 in
theorem ip_o210 : ip_okl 210 = true := iq_all_ok _ 0 _ rfl (show iq_all 210 (ip_cs.getD 210 []) 0 (ip_by 210).data.toList = true by decide +kernel)
set_option maxRecDepth 100000 in
theorem ip_o211 : ip_okl 211 = true := iq_all_ok _ 0 _ rfl (show iq_all 211 (ip_cs.getD 211 []) 0 (ip_by 211).data.toList = true by decide +kernel)
set_option maxRecDepth 100000 in
theorem ip_o212 : ip_okl 212 = true := iq_all_ok _ 0 _ rfl (show iq_all 212 (ip_cs.getD 212 []) 0 (ip_by 212).data.toList = true by decide +kernel)
set_option maxRecDepth 100000 in
theorem ip_o213 : ip_okl 213 = true := iq_all_ok _ 0 _ rfl (show iq_all 213 (ip_cs.getD 213 []) 0 (ip_by 213).data.toList = true by decide +kernel)
set_option maxRecDepth 100000 in
theorem ip_o214 : ip_okl 214 = true := iq_all_ok _ 0 _ rfl (show iq_all 214 (ip_cs.getD 214 []) 0 (ip_by 214).data.toList = true by decide +kernel)
set_option maxRecDepth 100000 in
theorem ip_o215 : ip_okl 215 = true := iq_all_ok _ 0 _ rfl (show iq_all 215 (ip_cs.getD 215 []) 0 (ip_by 215).data.toList = true by decide +kernel)
set_option maxRecDepth 100000 in
theorem ip_o216 : ip_okl 216 = true := iq_all_ok _ 0 _ rfl (show iq_all 216 (ip_cs.getD 216 []) 0 (ip_by 216).data.toList = true by decide +kernel)
set_option maxRecDepth 100000 in
theorem ip_o217 : ip_okl 217 = true := iq_all_ok _ 0 _ rfl (show iq_all 217 (ip_cs.getD 217 []) 0 (ip_by 217).data.toList = true by decide +kernel)
set_option maxRecDepth 100000 in
theorem ip_o218 : ip_okl 218 = true := iq_all_ok _ 0 _ rfl (show iq_all 218 (ip_cs.getD 218 []) 0 (ip_by 218).data.toList = true by decide +kernel)
set_option maxRecDepth 100000 in
theorem ip_o219 : ip_okl 219 = true := iq_all_ok _ 0 _ rfl (show iq_all 219 (ip_cs.getD 219 []) 0 (ip_by 219).data.toList = true by decide +kernel)
set_option maxRecDepth 100000 in
theorem ip_o220 : ip_okl 220 = true := iq_all_ok _ 0 _ rfl (show iq_all 220 (ip_cs.getD 220 []) 0 (ip_by 220).data.toList = true by decide +kernel)
set_option maxRecDepth 100000 in
theorem ip_o221 : ip_okl 221 = true := iq_all_ok _ 0 _ rfl (show iq_all 221 (ip_cs.getD 221 []) 0 (ip_by 221).data.toList = true by decide +kernel)
set_option maxRecDepth 100000 in
theorem ip_o222 : ip_okl 222 = true := iq_all_ok _ 0 _ rfl (show iq_all 222 (ip_cs.getD 222 []) 0 (ip_by 222).data.toList = true by decide +kernel)
set_option maxRecDepth 100000 in
theorem ip_o223 : ip_okl 223 = true := iq_all_ok _ 0 _ rfl (show iq_all 223 (ip_cs.getD 223 []) 0 (ip_by 223).data.toList = true by decide +kernel)
set_option maxRecDepth 100000 in
theorem ip_o224 : ip_okl 224 = true := iq_all_ok _ 0 _ rfl (show iq_all 224 (ip_cs.getD 224 []) 0 (ip_by 224).data.toList = true by decide +kernel)
set_option maxRecDepth 100000 in
theorem ip_o225 : ip_okl 225 = true := iq_all_ok _ 0 _ rfl (show iq_all 225 (ip_cs.getD 225 []) 0 (ip_by 225).data.toList = true by decide +kernel)
set_option maxRecDepth 100000 in
theorem ip_o226 : ip_okl 226 = true := iq_all_ok _ 0 _ rfl (show iq_all 226 (ip_cs.getD 226 []) 0 (ip_by 226).data.toList = true by decide +kernel)
set_option maxRecDepth 100000 in
theorem ip_o227 : ip_okl 227 = true := iq_all_ok _ 0 _ rfl (show iq_all 227 (ip_cs.getD 227 []) 0 (ip_by 227).data.toList = true by decide +kernel)
set_option maxRecDepth 100000 in
theorem ip_o228 : ip_okl 228 = true := iq_all_ok _ 0 _ rfl (show iq_all 228 (ip_cs.getD 228 []) 0 (ip_by 228).data.toList = true by decide +kernel)
set_option maxRecDepth 100000 in
theorem ip_o229 : ip_okl 229 = true := iq_all_ok _ 0 _ rfl (show iq_all 229 (ip_cs.getD 229 []) 0 (ip_by 229).data.toList = true by decide +kernel)
set_option maxRecDepth 100000 in
theorem ip_o230 : ip_okl 230 = true := iq_all_ok _ 0 _ rfl (show iq_all 230 (ip_cs.getD 230 []) 0 (ip_by 230).data.toList = true by decide +kernel)
set_option maxRecDepth 100000 in
theorem ip_o231 : ip_okl 231 = true := iq_all_ok _ 0 _ rfl (show iq_all 231 (ip_cs.getD 231 []) 0 (ip_by 231).data.toList = true by decide +kernel)
set_option maxRecDepth 100000 in
theorem ip_o232 : ip_okl 232 = true := iq_all_ok _ 0 _ rfl (show iq_all 232 (ip_cs.getD 232 []) 0 (ip_by 232).data.toList = true by decide +kernel)
set_option maxRecDepth 100000 in
theorem ip_o233 : ip_okl 233 = true := iq_all_ok _ 0 _ rfl (show iq_all 233 (ip_cs.getD 233 []) 0 (ip_by 233).data.toList = true by decide +kernel)
set_option maxRecDepth 100000 in
theorem ip_o234 : ip_okl 234 = true := iq_all_ok _ 0 _ rfl (show iq_all 234 (ip_cs.getD 234 []) 0 (ip_by 234).data.toList = true by decide +kernel)
set_option maxRecDepth 100000 in
theorem ip_o235 : ip_okl 235 = true := iq_all_ok _ 0 _ rfl (show iq_all 235 (ip_cs.getD 235 []) 0 (ip_by 235).data.toList = true by decide +kernel)
set_option maxRecDepth 100000 in
theorem ip_o236 : ip_okl 236 = true := iq_all_ok _ 0 _ rfl (show iq_all 236 (ip_cs.getD 236 []) 0 (ip_by 236).data.toList = true by decide +kernel)
set_option maxRecDepth 100000 in
theorem ip_o237 : ip_okl 237 = true := iq_all_ok _ 0 _ rfl (show iq_all 237 (ip_cs.getD 237 []) 0 (ip_by 237).data.toList = true by decide +kernel)
set_option maxRecDepth 100000 in
theorem ip_o238 : ip_okl 238 = true := iq_all_ok _ 0 _ rfl (show iq_all 238 (ip_cs.getD 238 []) 0 (ip_by 238).data.toList = true by decide +kernel)
set_option maxRecDepth 100000 in
theorem ip_o239 : ip_okl 239 = true := iq_all_ok _ 0 _ rfl (show iq_all 239 (ip_cs.getD 239 []) 0 (ip_by 239).data.toList = true by decide +kernel)
set_option maxRecDepth 100000 in
theorem ip_o240 : ip_okl 240 = true := iq_all_ok _ 0 _ rfl (show iq_all 240 (ip_cs.getD 240 []) 0 (ip_by 240).data.toList = true by decide +kernel)
set_option maxRecDepth 100000 in
theorem ip_o241 : ip_okl 241 = true := iq_all_ok _ 0 _ rfl (show iq_all 241 (ip_cs.getD 241 []) 0 (ip_by 241).data.toList = true by decide +kernel)
set_option maxRecDepth 100000 in
theorem ip_o242 : ip_okl 242 = true := iq_all_ok _ 0 _ rfl (show iq_all 242 (ip_cs.getD 242 []) 0 (ip_by 242).data.toList = true by decide +kernel)
set_option maxRecDepth 100000 in
theorem ip_o243 : ip_okl 243 = true := iq_all_ok _ 0 _ rfl (show iq_all 243 (ip_cs.getD 243 []) 0 (ip_by 243).data.toList = true by decide +kernel)
set_option maxRecDepth 100000 in
theorem ip_o244 : ip_okl 244 = true := iq_all_ok _ 0 _ rfl (show iq_all 244 (ip_cs.getD 244 []) 0 (ip_by 244).data.toList = true by decide +kernel)
set_option maxRecDepth 100000 in
theorem ip_o245 : ip_okl 245 = true := iq_all_ok _ 0 _ rfl (show iq_all 245 (ip_cs.getD 245 []) 0 (ip_by 245).data.toList = true by decide +kernel)
set_option maxRecDepth 100000 in
theorem ip_o246 : ip_okl 246 = true := iq_all_ok _ 0 _ rfl (show iq_all 246 (ip_cs.getD 246 []) 0 (ip_by 246).data.toList = true by decide +kernel)
set_option maxRecDepth 100000 in
theorem ip_o247 : ip_okl 247 = true := iq_all_ok _ 0 _ rfl (show iq_all 247 (ip_cs.getD 247 []) 0 (ip_by 247).data.toList = true by decide +kernel)
set_option maxRecDepth 100000 in
theorem ip_o248 : ip_okl 248 = true := iq_all_ok _ 0 _ rfl (show iq_all 248 (ip_cs.getD 248 []) 0 (ip_by 248).data.toList = true by decide +kernel)
set_option maxRecDepth 100000 in
theorem ip_o249 : ip_okl 249 = true := iq_all_ok _ 0 _ rfl (show iq_all 249 (ip_cs.getD 249 []) 0 (ip_by 249).data.toList = true by decide +kernel)
set_option maxRecDepth 100000 in
theorem ip_o250 : ip_okl 250 = true := iq_all_ok _ 0 _ rfl (show iq_all 250 (ip_cs.getD 250 []) 0 (ip_by 250).data.toList = true by decide +kernel)
set_option maxRecDepth 100000 in
theorem ip_o251 : ip_okl 251 = true := iq_all_ok _ 0 _ rfl (show iq_all 251 (ip_cs.getD 251 []) 0 (ip_by 251).data.toList = true by decide +kernel)
set_option maxRecDepth 100000 in
theorem ip_o252 : ip_okl 252 = true := iq_all_ok _ 0 _ rfl (show iq_all 252 (ip_cs.getD 252 []) 0 (ip_by 252).data.toList = true by decide +kernel)
set_option maxRecDepth 100000 in
theorem ip_o253 : ip_okl 253 = true := iq_all_ok _ 0 _ rfl (show iq_all 253 (ip_cs.getD 253 []) 0 (ip_by 253).data.toList = true by decide +kernel)
set_option maxRecDepth 100000 in
theorem ip_o254 : ip_okl 254 = true := iq_all_ok _ 0 _ rfl (show iq_all 254 (ip_cs.getD 254 []) 0 (ip_by 254).data.toList = true by decide +kernel)
set_option maxRecDepth 100000 in
theorem ip_o255 : ip_okl 255 = true := iq_all_ok _ 0 _ rfl (show iq_all 255 (ip_cs.getD 255 []) 0 (ip_by 255).data.toList = true by decide +kernel)
set_option maxRecDepth 100000 in
theorem ip_o256 : ip_okl 256 = true := iq_all_ok _ 0 _ rfl (show iq_all 256 (ip_cs.getD 256 []) 0 (ip_by 256).data.toList = true by decide +kernel)
set_option maxRecDepth 100000 in
theorem ip_o257 : ip_okl 257 = true := iq_all_ok _ 0 _ rfl (show iq_all 257 (ip_cs.getD 257 []) 0 (ip_by 257).data.toList = true by decide +kernel)
set_option maxRecDepth 100000 in
theorem ip_o258 : ip_okl 258 = true := iq_all_ok _ 0 _ rfl (show iq_all 258 (ip_cs.getD 258 []) 0 (ip_by 258).data.toList = true by decide +kernel)
set_option maxRecDepth 100000 in
theorem ip_o259 : ip_okl 259 = true := iq_all_ok _ 0 _ rfl (show iq_all 259 (ip_cs.getD 259 []) 0 (ip_by 259).data.toList = true by decide +kernel)
set_option maxRecDepth 100000 in
theorem ip_o260 : ip_okl 260 = true := iq_all_ok _ 0 _ rfl (show iq_all 260 (ip_cs.getD 260 []) 0 (ip_by 260).data.toList = true by decide +kernel)
set_option maxRecDepth 100000 in
theorem ip_o261 : ip_okl 261 = true := iq_all_ok _ 0 _ rfl (show iq_all 261 (ip_cs.getD 261 []) 0 (ip_by 261).data.toList = true by decide +kernel)
set_option maxRecDepth 100000 in
theorem ip_o262 : ip_okl 262 = true := iq_all_ok _ 0 _ rfl (show iq_all 262 (ip_cs.getD 262 []) 0 (ip_by 262).data.toList = true by decide +kernel)
set_option maxRecDepth 100000 in
theorem ip_o263 : ip_okl 263 = true := iq_all_ok _ 0 _ rfl (show iq_all 263 (ip_cs.getD 263 []) 0 (ip_by 263).data.toList = true by decide +kernel)
set_option maxRecDepth 100000 in
theorem ip_o264 : ip_okl 264 = true := iq_all_ok _ 0 _ rfl (show iq_all 264 (ip_cs.getD 264 []) 0 (ip_by 264).data.toList = true by decide +kernel)
set_option maxRecDepth 100000 in
theorem ip_o265 : ip_okl 265 = true := iq_all_ok _ 0 _ rfl (show iq_all 265 (ip_cs.getD 265 []) 0 (ip_by 265).data.toList = true by decide +kernel)
set_option maxRecDepth 100000 in
theorem ip_o266 : ip_okl 266 = true := iq_all_ok _ 0 _ rfl (show iq_all 266 (ip_cs.getD 266 []) 0 (ip_by 266).data.toList = true by decide +kernel)
set_option maxRecDepth 100000 in
theorem ip_o267 : ip_okl 267 = true := iq_all_ok _ 0 _ rfl (show iq_all 267 (ip_cs.getD 267 []) 0 (ip_by 267).data.toList = true by decide +kernel)
set_option maxRecDepth 100000 in
theorem ip_o268 : ip_okl 268 = true := iq_all_ok _ 0 _ rfl (show iq_all 268 (ip_cs.getD 268 []) 0 (ip_by 268).data.toList = true by decide +kernel)
set_option maxRecDepth 100000 in
theorem ip_o269 : ip_okl 269 = true := iq_all_ok _ 0 _ rfl (show iq_all 269 (ip_cs.getD 269 []) 0 (ip_by 269).data.toList = true by decide +kernel)
set_option maxRecDepth 100000 in
theorem ip_o270 : ip_okl 270 = true := iq_all_ok _ 0 _ rfl (show iq_all 270 (ip_cs.getD 270 []) 0 (ip_by 270).data.toList = true by decide +kernel)
set_option maxRecDepth 100000 in
theorem ip_o271 : ip_okl 271 = true := iq_all_ok _ 0 _ rfl (show iq_all 271 (ip_cs.getD 271 []) 0 (ip_by 271).data.toList = true by decide +kernel)
set_option maxRecDepth 100000 in
theorem ip_o272 : ip_okl 272 = true := iq_all_ok _ 0 _ rfl (show iq_all 272 (ip_cs.getD 272 []) 0 (ip_by 272).data.toList = true by decide +kernel)
set_option maxRecDepth 100000 in
theorem ip_o273 : ip_okl 273 = true := iq_all_ok _ 0 _ rfl (show iq_all 273 (ip_cs.getD 273 []) 0 (ip_by 273).data.toList = true by decide +kernel)
set_option maxRecDepth 100000 in
theorem ip_o274 : ip_okl 274 = true := iq_all_ok _ 0 _ rfl (show iq_all 274 (ip_cs.getD 274 []) 0 (ip_by 274).data.toList = true by decide +kernel)
set_option maxRecDepth 100000 in
theorem ip_o275 : ip_okl 275 = true := iq_all_ok _ 0 _ rfl (show iq_all 275 (ip_cs.getD 275 []) 0 (ip_by 275).data.toList = true by decide +kernel)
set_option maxRecDepth 100000 in
theorem ip_o276 : ip_okl 276 = true := iq_all_ok _ 0 _ rfl (show iq_all 276 (ip_cs.getD 276 []) 0 (ip_by 276).data.toList = true by decide +kernel)
set_option maxRecDepth 100000 in
theorem ip_o277 : ip_okl 277 = true := iq_all_ok _ 0 _ rfl (show iq_all 277 (ip_cs.getD 277 []) 0 (ip_by 277).data.toList = true by decide +kernel)
set_option maxRecDepth 100000 in
theorem ip_o278 : ip_okl 278 = true := iq_all_ok _ 0 _ rfl (show iq_all 278 (ip_cs.getD 278 []) 0 (ip_by 278).data.toList = true by decide +kernel)
set_option maxRecDepth 100000 in
theorem ip_o279 : ip_okl 279 = true := iq_all_ok _ 0 _ rfl (show iq_all 279 (ip_cs.getD 279 []) 0 (ip_by 279).data.toList = true by decide +kernel)
set_option maxRecDepth 100000 in
theorem ip_o280 : ip_okl 280 = true := iq_all_ok _ 0 _ rfl (show iq_all 280 (ip_cs.getD 280 []) 0 (ip_by 280).data.toList = true by decide +kernel)
set_option maxRecDepth 100000 in
theorem ip_o281 : ip_okl 281 = true := iq_all_ok _ 0 _ rfl (show iq_all 281 (ip_cs.getD 281 []) 0 (ip_by 281).data.toList = true by decide +kernel)
set_option maxRecDepth 100000 in
theorem ip_o282 : ip_okl 282 = true := iq_all_ok _ 0 _ rfl (show iq_all 282 (ip_cs.getD 282 []) 0 (ip_by 282).data.toList = true by decide +kernel)
set_option maxRecDepth 100000 in
theorem ip_o283 : ip_okl 283 = true := iq_all_ok _ 0 _ rfl (show iq_all 283 (ip_cs.getD 283 []) 0 (ip_by 283).data.toList = true by decide +kernel)
set_option maxRecDepth 100000 in
theorem ip_o284 : ip_okl 284 = true := iq_all_ok _ 0 _ rfl (show iq_all 284 (ip_cs.getD 284 []) 0 (ip_by 284).data.toList = true by decide +kernel)
set_option maxRecDepth 100000 in
theorem ip_o285 : ip_okl 285 = true := iq_all_ok _ 0 _ rfl (show iq_all 285 (ip_cs.getD 285 []) 0 (ip_by 285).data.toList = true by decide +kernel)
set_option maxRecDepth 100000 in
theorem ip_o286 : ip_okl 286 = true := iq_all_ok _ 0 _ rfl (show iq_all 286 (ip_cs.getD 286 []) 0 (ip_by 286).data.toList = true by decide +kernel)
set_option maxRecDepth 100000 in
theorem ip_o287 : ip_okl 287 = true := iq_all_ok _ 0 _ rfl (show iq_all 287 (ip_cs.getD 287 []) 0 (ip_by 287).data.toList = true by decide +kernel)
set_option maxRecDepth 100000 in
theorem ip_o288 : ip_okl 288 = true := iq_all_ok _ 0 _ rfl (show iq_all 288 (ip_cs.getD 288 []) 0 (ip_by 288).data.toList = true by decide +kernel)
set_option maxRecDepth 100000 in
theorem ip_o289 : ip_okl 289 = true := iq_all_ok _ 0 _ rfl (show iq_all 289 (ip_cs.getD 289 []) 0 (ip_by 289).data.toList = true by decide +kernel)
set_option maxRecDepth 100000 in
theorem ip_o290 : ip_okl 290 = true := iq_all_ok _ 0 _ rfl (show iq_all 290 (ip_cs.getD 290 []) 0 (ip_by 290).data.toList = true by decide +kernel)
set_option maxRecDepth 100000 in
theorem ip_o291 : ip_okl 291 = true := iq_all_ok _ 0 _ rfl (show iq_all 291 (ip_cs.getD 291 []) 0 (ip_by 291).data.toList = true by decide +kernel)
set_option maxRecDepth 100000 in
theorem ip_o292 : ip_okl 292 = true := iq_all_ok _ 0 _ rfl (show iq_all 292 (ip_cs.getD 292 []) 0 (ip_by 292).data.toList = true by decide +kernel)
set_option maxRecDepth 100000 in
theorem ip_o293 : ip_okl 293 = true := iq_all_ok _ 0 _ rfl (show iq_all 293 (ip_cs.getD 293 []) 0 (ip_by 293).data.toList = true by decide +kernel)
set_option maxRecDepth 100000 in
theorem ip_o294 : ip_okl 294 = true := iq_all_ok _ 0 _ rfl (show iq_all 294 (ip_cs.getD 294 []) 0 (ip_by 294).data.toList = true by decide +kernel)
set_option maxRecDepth 100000 in
theorem ip_ol0 : (((ip_cs.getD 295 []).drop 0).take 30).all (fun q => ip_ok 295 q.1 q.2) = true := iq_all_ok _ 0 _ rfl (show iq_all 295 (((ip_cs.getD 295 []).drop 0).take 30) 0 (ip_by 295).data.toList = true by decide +kernel)
set_option maxRecDepth 100000 in
theorem ip_ol1 : (((ip_cs.getD 295 []).drop 30).take 30).all (fun q => ip_ok 295 q.1 q.2) = true := iq_all_ok _ 0 _ rfl (show iq_all 295 (((ip_cs.getD 295 []).drop 30).take 30) 0 (ip_by 295).data.toList = true by decide +kernel)
set_option maxRecDepth 100000 in
theorem ip_ol2 : (((ip_cs.getD 295 []).drop 60).take 30).all (fun q => ip_ok 295 q.1 q.2) = true := iq_all_ok _ 0 _ rfl (show iq_all 295 (((ip_cs.getD 295 []).drop 60).take 30) 0 (ip_by 295).data.toList = true by decide +kernel)
set_option maxRecDepth 100000 in
theorem ip_ol3 : (((ip_cs.getD 295 []).drop 90).take 30).all (fun q => ip_ok 295 q.1 q.2) = true := iq_all_ok _ 0 _ rfl (show iq_all 295 (((ip_cs.getD 295 []).drop 90).take 30) 0 (ip_by 295).data.toList = true by decide +kernel)
set_option maxRecDepth 100000 in
theorem ip_ol4 : (((ip_cs.getD 295 []).drop 120).take 30).all (fun q => ip_ok 295 q.1 q.2) = true := iq_all_ok _ 0 _ rfl (show iq_all 295 (((ip_cs.getD 295 []).drop 120).take 30) 0 (ip_by 295).data.toList = true by decide +kernel)
set_option maxRecDepth 100000 in
theorem ip_ol5 : (((ip_cs.getD 295 []).drop 150).take 30).all (fun q => ip_ok 295 q.1 q.2) = true := iq_all_ok _ 0 _ rfl (show iq_all 295 (((ip_cs.getD 295 []).drop 150).take 30) 0 (ip_by 295).data.toList = true by decide +kernel)
set_option maxRecDepth 100000 in
theorem ip_ol6 : (((ip_cs.getD 295 []).drop 180).take 30).all (fun q => ip_ok 295 q.1 q.2) = true := iq_all_ok _ 0 _ rfl (show iq_all 295 (((ip_cs.getD 295 []).drop 180).take 30) 0 (ip_by 295).data.toList = true by decide +kernel)
set_option maxRecDepth 100000 in
theorem ip_ol7 : (((ip_cs.getD 295 []).drop 210).take 30).all (fun q => ip_ok 295 q.1 q.2) = true := iq_all_ok _ 0 _ rfl (show iq_all 295 (((ip_cs.getD 295 []).drop 210).take 30) 0 (ip_by 295).data.toList = true by decide +kernel)
set_option maxRecDepth 100000 in
theorem ip_ol8 : (((ip_cs.getD 295 []).drop 240).take 30).all (fun q => ip_ok 295 q.1 q.2) = true := iq_all_ok _ 0 _ rfl (show iq_all 295 (((ip_cs.getD 295 []).drop 240).take 30) 0 (ip_by 295).data.toList = true by decide +kernel)
set_option maxRecDepth 100000 in
theorem ip_ol9 : (((ip_cs.getD 295 []).drop 270).take 30).all (fun q => ip_ok 295 q.1 q.2) = true := iq_all_ok _ 0 _ rfl (show iq_all 295 (((ip_cs.getD 295 []).drop 270).take 30) 0 (ip_by 295).data.toList = true by decide +kernel)
set_option maxRecDepth 100000 in
theorem ip_ol10 : (((ip_cs.getD 295 []).drop 300).take 30).all (fun q => ip_ok 295 q.1 q.2) = true := iq_all_ok _ 0 _ rfl (show iq_all 295 (((ip_cs.getD 295 []).drop 300).take 30) 0 (ip_by 295).data.toList = true by decide +kernel)
set_option maxRecDepth 100000 in
theorem ip_ol11 : (((ip_cs.getD 295 []).drop 330).take 30).all (fun q => ip_ok 295 q.1 q.2) = true := iq_all_ok _ 0 _ rfl (show iq_all 295 (((ip_cs.getD 295 []).drop 330).take 30) 0 (ip_by 295).data.toList = true by decide +kernel)
set_option maxRecDepth 100000 in
theorem ip_ol12 : (((ip_cs.getD 295 []).drop 360).take 30).all (fun q => ip_ok 295 q.1 q.2) = true := iq_all_ok _ 0 _ rfl (show iq_all 295 (((ip_cs.getD 295 []).drop 360).take 30) 0 (ip_by 295).data.toList = true by decide +kernel)
set_option maxRecDepth 100000 in
theorem ip_ol13 : (((ip_cs.getD 295 []).drop 390).take 30).all (fun q => ip_ok 295 q.1 q.2) = true := iq_all_ok _ 0 _ rfl (show iq_all 295 (((ip_cs.getD 295 []).drop 390).take 30) 0 (ip_by 295).data.toList = true by decide +kernel)
set_option maxRecDepth 100000 in
theorem ip_ol14 : (((ip_cs.getD 295 []).drop 420).take 30).all (fun q => ip_ok 295 q.1 q.2) = true := iq_all_ok _ 0 _ rfl (show iq_all 295 (((ip_cs.getD 295 []).drop 420).take 30) 0 (ip_by 295).data.toList = true by decide +kernel)
set_option maxRecDepth 100000 in
theorem ip_ol15 : (((ip_cs.getD 295 []).drop 450).take 30).all (fun q => ip_ok 295 q.1 q.2) = true := iq_all_ok _ 0 _ rfl (show iq_all 295 (((ip_cs.getD 295 []).drop 450).take 30) 0 (ip_by 295).data.toList = true by decide +kernel)
set_option maxRecDepth 100000 in
theorem ip_ol16 : (((ip_cs.getD 295 []).drop 480).take 30).all (fun q => ip_ok 295 q.1 q.2) = true := iq_all_ok _ 0 _ rfl (show iq_all 295 (((ip_cs.getD 295 []).drop 480).take 30) 0 (ip_by 295).data.toList = true by decide +kernel)
set_option maxRecDepth 100000 in
theorem ip_ol17 : (((ip_cs.getD 295 []).drop 510).take 30).all (fun q => ip_ok 295 q.1 q.2) = true := iq_all_ok _ 0 _ rfl (show iq_all 295 (((ip_cs.getD 295 []).drop 510).take 30) 0 (ip_by 295).data.toList = true by decide +kernel)
set_option maxRecDepth 100000 in
theorem ip_ol18 : (((ip_cs.getD 295 []).drop 540).take 30).all (fun q => ip_ok 295 q.1 q.2) = true := iq_all_ok _ 0 _ rfl (show iq_all 295 (((ip_cs.getD 295 []).drop 540).take 30) 0 (ip_by 295).data.toList = true by decide +kernel)
set_option maxRecDepth 100000 in
theorem ip_ol19 : (((ip_cs.getD 295 []).drop 570).take 30).all (fun q => ip_ok 295 q.1 q.2) = true := iq_all_ok _ 0 _ rfl (show iq_all 295 (((ip_cs.getD 295 []).drop 570).take 30) 0 (ip_by 295).data.toList = true by decide +kernel)
set_option maxRecDepth 100000 in
theorem ip_ol20 : (((ip_cs.getD 295 []).drop 600).take 30).all (fun q => ip_ok 295 q.1 q.2) = true := iq_all_ok _ 0 _ rfl (show iq_all 295 (((ip_cs.getD 295 []).drop 600).take 30) 0 (ip_by 295).data.toList = true by decide +kernel)
set_option maxRecDepth 100000 in
theorem ip_ol21 : (((ip_cs.getD 295 []).drop 630).take 30).all (fun q => ip_ok 295 q.1 q.2) = true := iq_all_ok _ 0 _ rfl (show iq_all 295 (((ip_cs.getD 295 []).drop 630).take 30) 0 (ip_by 295).data.toList = true by decide +kernel)
set_option maxRecDepth 100000 in
theorem ip_ol22 : (((ip_cs.getD 295 []).drop 660).take 30).all (fun q => ip_ok 295 q.1 q.2) = true := iq_all_ok _ 0 _ rfl (show iq_all 295 (((ip_cs.getD 295 []).drop 660).take 30) 0 (ip_by 295).data.toList = true by decide +kernel)
set_option maxRecDepth 100000 in
theorem ip_ol23 : (((ip_cs.getD 295 []).drop 690).take 30).all (fun q => ip_ok 295 q.1 q.2) = true := iq_all_ok _ 0 _ rfl (show iq_all 295 (((ip_cs.getD 295 []).drop 690).take 30) 0 (ip_by 295).data.toList = true by decide +kernel)
set_option maxRecDepth 100000 in
theorem ip_ol24 : (((ip_cs.getD 295 []).drop 720).take 30).all (fun q => ip_ok 295 q.1 q.2) = true := iq_all_ok _ 0 _ rfl (show iq_all 295 (((ip_cs.getD 295 []).drop 720).take 30) 0 (ip_by 295).data.toList = true by decide +kernel)
set_option maxRecDepth 100000 in
theorem ip_ol25 : (((ip_cs.getD 295 []).drop 750).take 30).all (fun q => ip_ok 295 q.1 q.2) = true := iq_all_ok _ 0 _ rfl (show iq_all 295 (((ip_cs.getD 295 []).drop 750).take 30) 0 (ip_by 295).data.toList = true by decide +kernel)
set_option maxRecDepth 100000 in
theorem ip_ol26 : (((ip_cs.getD 295 []).drop 780).take 30).all (fun q => ip_ok 295 q.1 q.2) = true := iq_all_ok _ 0 _ rfl (show iq_all 295 (((ip_cs.getD 295 []).drop 780).take 30) 0 (ip_by 295).data.toList = true by decide +kernel)
set_option maxRecDepth 100000 in
theorem ip_ol27 : (((ip_cs.getD 295 []).drop 810).take 30).all (fun q => ip_ok 295 q.1 q.2) = true := iq_all_ok _ 0 _ rfl (show iq_all 295 (((ip_cs.getD 295 []).drop 810).take 30) 0 (ip_by 295).data.toList = true by decide +kernel)
set_option maxRecDepth 100000 in
theorem ip_ol28 : (((ip_cs.getD 295 []).drop 840).take 30).all (fun q => ip_ok 295 q.1 q.2) = true := iq_all_ok _ 0 _ rfl (show iq_all 295 (((ip_cs.getD 295 []).drop 840).take 30) 0 (ip_by 295).data.toList = true by decide +kernel)
set_option maxRecDepth 100000 in
theorem ip_ol29 : (((ip_cs.getD 295 []).drop 870).take 30).all (fun q => ip_ok 295 q.1 q.2) = true := iq_all_ok _ 0 _ rfl (show iq_all 295 (((ip_cs.getD 295 []).drop 870).take 30) 0 (ip_by 295).data.toList = true by decide +kernel)
set_option maxRecDepth 100000 in
theorem ip_ol30 : (((ip_cs.getD 295 []).drop 900).take 30).all (fun q => ip_ok 295 q.1 q.2) = true := iq_all_ok _ 0 _ rfl (show iq_all 295 (((ip_cs.getD 295 []).drop 900).take 30) 0 (ip_by 295).data.toList = true by decide +kernel)
set_option maxRecDepth 100000 in
theorem ip_ol31 : (((ip_cs.getD 295 []).drop 930).take 30).all (fun q => ip_ok 295 q.1 q.2) = true := iq_all_ok _ 0 _ rfl (show iq_all 295 (((ip_cs.getD 295 []).drop 930).take 30) 0 (ip_by 295).data.toList = true by decide +kernel)
set_option maxRecDepth 100000 in
theorem ip_ol32 : (((ip_cs.getD 295 []).drop 960).take 30).all (fun q => ip_ok 295 q.1 q.2) = true := iq_all_ok _ 0 _ rfl (show iq_all 295 (((ip_cs.getD 295 []).drop 960).take 30) 0 (ip_by 295).data.toList = true by decide +kernel)
set_option maxRecDepth 100000 in
theorem ip_ol33 : (((ip_cs.getD 295 []).drop 990).take 30).all (fun q => ip_ok 295 q.1 q.2) = true := iq_all_ok _ 0 _ rfl (show iq_all 295 (((ip_cs.getD 295 []).drop 990).take 30) 0 (ip_by 295).data.toList = true by decide +kernel)
set_option maxRecDepth 100000 in
theorem ip_ol34 : (((ip_cs.getD 295 []).drop 1020).take 30).all (fun q => ip_ok 295 q.1 q.2) = true := iq_all_ok _ 0 _ rfl (show iq_all 295 (((ip_cs.getD 295 []).drop 1020).take 30) 0 (ip_by 295).data.toList = true by decide +kernel)
set_option maxRecDepth 100000 in
theorem ip_ol35 : (((ip_cs.getD 295 []).drop 1050).take 30).all (fun q => ip_ok 295 q.1 q.2) = true := iq_all_ok _ 0 _ rfl (show iq_all 295 (((ip_cs.getD 295 []).drop 1050).take 30) 0 (ip_by 295).data.toList = true by decide +kernel)
set_option maxRecDepth 100000 in
theorem ip_ol36 : (((ip_cs.getD 295 []).drop 1080).take 30).all (fun q => ip_ok 295 q.1 q.2) = true := iq_all_ok _ 0 _ rfl (show iq_all 295 (((ip_cs.getD 295 []).drop 1080).take 30) 0 (ip_by 295).data.toList = true by decide +kernel)
set_option maxRecDepth 100000 in
theorem ip_ol37 : (((ip_cs.getD 295 []).drop 1110).take 30).all (fun q => ip_ok 295 q.1 q.2) = true := iq_all_ok _ 0 _ rfl (show iq_all 295 (((ip_cs.getD 295 []).drop 1110).take 30) 0 (ip_by 295).data.toList = true by decide +kernel)
set_option maxRecDepth 100000 in
theorem ip_ol38 : (((ip_cs.getD 295 []).drop 1140).take 30).all (fun q => ip_ok 295 q.1 q.2) = true := iq_all_ok _ 0 _ rfl (show iq_all 295 (((ip_cs.getD 295 []).drop 1140).take 30) 0 (ip_by 295).data.toList = true by decide +kernel)
end
