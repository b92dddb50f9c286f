-- WHAT IS CHECKED OF AN ENTRY, by program; the world of the cells
def ip_os (y : Nat) : String := ip_own.getD (ip_oc y) ""
def ip_dc (y pc : Nat) (i : Instr) (len nx : Nat) : Bool := decide (decode (ip_by y) pc = .ok (i, len)) && decide (nx = pc + len)
def ip_tg (pc : Nat) (off : Int) (a : Nat) : Bool := decide ((pc : Int) + off = (a : Int))
def ip_fty (ci j : Nat) : FieldType := (ip_tys.getD ci (fun _ => .int)) j
def ip_kd : FieldType → Nat
  | .int => 0
  | .long => 1
  | .boolean => 3
  | _ => 2
def ip_fin (ci j : Nat) : Bool := match ip_cl[ci]? with
  | some q => (q.2.1 j).2.2.2
  | none => false
def ip_ok (y pc : Nat) (e : ip_E) : Bool :=
  let nx := e.2.1
  let a := e.2.2.1
  let b := e.2.2.2.1
  let t := e.2.2.2.2.1
  let w := e.2.2.2.2.2.1
  let v := e.2.2.2.2.2.2.1
  let ts := e.2.2.2.2.2.2.2
  match e.1 with
  | .iconst n => ip_dc y pc (.iconst n) 1 nx && decide (v = .int (Int32.ofInt n))
  | .bipush n => ip_dc y pc (.bipush n) 2 nx && decide (v = .int (Int8.ofInt n).toInt32)
  | .sipush n => ip_dc y pc (.sipush n) 3 nx && decide (v = .int (Int16.ofInt n).toInt32)
  | .lconst n => ip_dc y pc (.lconst n) 1 nx && decide (v = .long (Int64.ofNat (n : Nat)))
  | .ldc n => ip_dc y pc (.ldc n) 2 nx && (match v with | .int x => decide (lw_tbl[w]? = some (.constant (ip_os y) n x)) | _ => false)
  | .ldc_w n => ip_dc y pc (.ldc_w n) 3 nx && (match v with | .int x => decide (lw_tbl[w]? = some (.constant (ip_os y) n x)) | _ => false)
  | .ldc2_w n => ip_dc y pc (.ldc2_w n) 3 nx && (match v with | .long x => decide (lw_tbl[w]? = some (.constantLong (ip_os y) n x)) | _ => false)
  | .iload n => ip_dc y pc (.iload n) 2 nx && decide (n = a)
  | .lload n => ip_dc y pc (.lload n) 2 nx && decide (n = a)
  | .aload n => ip_dc y pc (.aload n) 2 nx && decide (n = a)
  | .iload_n n => ip_dc y pc (.iload_n n) 1 nx && decide ((n : Nat) = a)
  | .lload_n n => ip_dc y pc (.lload_n n) 1 nx && decide ((n : Nat) = a)
  | .aload_n n => ip_dc y pc (.aload_n n) 1 nx && decide ((n : Nat) = a)
  | .istore n => ip_dc y pc (.istore n) 2 nx && (decide (n = a) && decide (a < ip_ml y))
  | .lstore n => ip_dc y pc (.lstore n) 2 nx && (decide (n = a) && decide (a + 1 < ip_ml y))
  | .astore n => ip_dc y pc (.astore n) 2 nx && (decide (n = a) && decide (a < ip_ml y))
  | .istore_n n => ip_dc y pc (.istore_n n) 1 nx && (decide ((n : Nat) = a) && decide (a < ip_ml y))
  | .lstore_n n => ip_dc y pc (.lstore_n n) 1 nx && (decide ((n : Nat) = a) && decide (a + 1 < ip_ml y))
  | .astore_n n => ip_dc y pc (.astore_n n) 1 nx && (decide ((n : Nat) = a) && decide (a < ip_ml y))
  | .iinc n k => (ip_dc y pc (.iinc n k) 3 nx || ip_dc y pc (.iinc n k) 6 nx) && (decide (n = a) && (decide (a < ip_ml y) && decide (v = .int (Int32.ofInt k))))
  | .goto off => decide (decode (ip_by y) pc = .ok (.goto off, 3)) && ip_tg pc off a
  | .ifCond c off => ip_dc y pc (.ifCond c off) 3 nx && ip_tg pc off a
  | .if_icmp c off => ip_dc y pc (.if_icmp c off) 3 nx && ip_tg pc off a
  | .tableswitch d lo hi offs => decide (decode (ip_by y) pc = .ok (.tableswitch d lo hi offs, t)) && (ip_tg pc d a && (decide (offs.size = ts.length) && (decide ((hi - lo).toNat < ts.length) && (List.range ts.length).all fun i => decide ((pc : Int) + offs.getD i 0 = ((ts.getD i a : Nat) : Int)))))
  | .getfield n => ip_dc y pc (.getfield n) 3 nx && (decide (ip_F[w]? = some (ip_oc y, n, a, b, false) ∨ ip_F[w]? = some (ip_oc y, n, a, b, true)) && (decide (t = ip_kd (ip_fty a b)) && (match ip_cl[a]? with | some q => decide (b < q.2.2) | none => false)))
  | .putfield n => ip_dc y pc (.putfield n) 3 nx && (decide (ip_F[w]? = some (ip_oc y, n, a, b, false) ∨ ip_F[w]? = some (ip_oc y, n, a, b, true)) && (decide (t = ip_kd (ip_fty a b)) && ((match ip_cl[a]? with | some q => decide (b < q.2.2) | none => false) &&
      (!(ip_fin a b) || (decide ((ip_nm y).name = "<init>") && (decide (ip_oc y = a) && decide (ip_F[w]? = some (ip_oc y, n, a, b, false))))))))
  | .new n => ip_dc y pc (.new n) 3 nx && (match ip_cl[a]? with | some q => decide (q.2.2 = b) && (decide (.classLink (ip_os y) n q.1 ∈ lw_tbl) && (decide (.instantiable q.1 q.2.2 ∈ lw_tbl) && decide (.initialized q.1 ∈ lw_tbl))) | none => false)
  | .newarray n => ip_dc y pc (.newarray n) 2 nx && (decide (newarray.typeOf n = ip_ty a) && (decide (a < 4) && decide (.arrayClass (ip_ty a) ∈ lw_tbl)))
  | .anewarray n => ip_dc y pc (.anewarray n) 3 nx && ((decide (a = 4) || decide (a = 5)) && decide (.classLink (ip_os y) n (if a = 4 then RX8 else RX5) ∈ lw_tbl))
  | .invokestatic n => ip_dc y pc (.invokestatic n) 3 nx && (if t = 7 then decide (.methodLink (ip_os y) n arraycopyName ∈ lw_tbl) && (decide (1 ≤ ip_fr y) && decide (8 + (nativeFrameWords "java/lang/System" "arraycopy" 5 + 11) ≤ ip_lw y)) else
      (decide (t = 0 ∨ t = 3) && (decide (ip_K[w]? = some (ip_oc y, n, a, t)) && (decide ((parseMethodDescriptor (ip_nm a).desc).map (fun d => d.parameters.length) = some b) && (decide (ip_fr a + 1 ≤ ip_fr y) && decide (8 + (ip_ml a + 11) + ip_lw a ≤ ip_lw y))))))
  | .invokevirtual n => ip_dc y pc (.invokevirtual n) 3 nx && (decide (t = 1 ∨ t = 4) && (decide (ip_K[w]? = some (ip_oc y, n, a, t)) && (decide ((parseMethodDescriptor (ip_nm a).desc).map (fun d => d.parameters.length + 1) = some b) && (decide (ip_fr a + 1 ≤ ip_fr y) && decide (8 + (ip_ml a + 11) + ip_lw a ≤ ip_lw y)))))
  | .invokespecial n => ip_dc y pc (.invokespecial n) 3 nx && (if t = 6 then decide (.methodLink (ip_os y) n Lib.objectInit ∈ lw_tbl) && (decide (1 ≤ ip_fr y) && decide (20 ≤ ip_lw y)) else
      (decide (t = 2 ∨ t = 5) && (decide (ip_K[w]? = some (ip_oc y, n, a, t)) && (decide ((parseMethodDescriptor (ip_nm a).desc).map (fun d => d.parameters.length + 1) = some b) && (decide (ip_fr a + 1 ≤ ip_fr y) && (decide (8 + (ip_ml a + 11) + ip_lw a ≤ ip_lw y) && (decide ((ip_nm a).name = "<init>") && decide (ip_rt a = none))))))))
  | .ireturn => ip_dc y pc .ireturn 1 nx && decide ((t = 0 ∧ ip_rt y = some .int) ∨ (t = 3 ∧ ip_rt y = some .boolean))
  | .lreturn => ip_dc y pc .lreturn 1 nx && decide (ip_rt y = some .long)
  | .areturn => ip_dc y pc .areturn 1 nx && (match ip_rt y with | some (.object _) => true | _ => false)
  | .return_ => ip_dc y pc .return_ 1 nx && decide (ip_rt y = none)
  | i => ip_dc y pc i 1 nx
def ip_isN : Cond → Bool
  | .fieldLinkNest .. => true
  | .methodLinkNest .. => true
  | _ => false
def ip_gw (w : Cond) : Bool := goodWord w || ip_isN w
