def ev_ty (ci k : Nat) : FieldType := match ci with
  | 0 => tyJx4a65c k
  | 1 => tyX0 k
  | 2 => tyX1 k
  | 3 => tyX2 k
  | 4 => tyX3 k
  | 5 => tyX4 k
  | 6 => tyX5 k
  | 7 => tyX6 k
  | _ => tyX7 k
def ev_nf (ci : Nat) : Nat := match ci with
  | 0 => 3
  | 1 => 15
  | 2 => 14
  | 3 => 3
  | 4 => 2
  | 5 => 3
  | 6 => 4
  | 7 => 3
  | _ => 48
/-! WHAT THE TABLES SAY IS SO: lengths, numbers, links, checked by program. -/
def ev_lenb (i : Instr) (len : Nat) : Bool := match i with
  | .bipush _ | .ldc _ | .iload _ | .aload _ | .istore _ | .astore _ | .newarray _ => len == 2
  | .sipush _ | .ldc_w _ | .iinc _ _ | .goto _ | .ifnull _ | .ifnonnull _ | .ifCond _ _ | .if_icmp _ _ | .if_acmp _ _ | .getfield _ | .putfield _ | .getstatic _ | .new _ | .anewarray _ | .invokestatic _ | .invokespecial _ | .invokevirtual _ | .checkcast _ => len == 3
  | .tableswitch _ _ _ _ | .lookupswitch _ _ => true
  | _ => len == 1
def ev_fin (ci k : Nat) : Bool := match vwCl[ci]? with
  | some q => (q.2.1 k).2.2.2
  | none => false
def ev_opb (oc kd pc : Nat) (i : Instr) (a b : Nat) (w : Int32) : Bool := if b == 99 then true else match i with
  | .iconst v => w == Int32.ofInt v
  | .bipush v => w == (Int8.ofInt v).toInt32
  | .sipush v => w == (Int16.ofInt v).toInt32
  | .ldc k | .ldc_w k => ev_kt.contains (oc, k, w)
  | .iinc _ v => w == Int32.ofInt v
  | .goto o | .ifnull o | .ifnonnull o | .ifCond _ o | .if_icmp _ o => (pc : Int) + o == (a : Int)
  | .getfield k => ev_ft.contains (oc, k, a, b, w)
  | .putfield k => ev_ft.contains (oc, k, a, b, w) && (!ev_fin a b || (kd == 2 && w == 0 && decide ((vwCl.map fun q => q.1)[a]? = some (ev_on oc))))
  | .new k | .checkcast k => ev_ct.contains (oc, k, a)
  | .newarray ty => a == (match ty with | .byte => 0 | .int => 1 | .boolean => 2 | .long => 3 | _ => 77)
  | .anewarray k => ev_qt.contains (oc, k, a)
  | .invokestatic k => ev_mt.contains (oc, k, a, b) && (b == 0 || b == 3 || b == 6 || b == 7)
  | .invokespecial k => ev_mt.contains (oc, k, a, b) && (b == 2 || b == 5)
  | .invokevirtual k => ev_mt.contains (oc, k, a, b) && (b == 1)
  | .aastore => [(7, 4), (4, 1), (5, 2), (6, 3), (8, 4)].contains (a, b)
  | .lookupswitch _ ps => (ps.toList.zip (ps.toList.drop 1)).all (fun (q : (Int × Int) × (Int × Int)) => q.1.1 < q.2.1)
  | _ => true
def ev_okb (oc kd : Nat) (bytes : ByteArray) (q : ev_I) : Bool := decide (decode bytes q.1 = .ok (q.2.1, q.2.2.1)) && ev_lenb q.2.1 q.2.2.1 && ev_opb oc kd q.1 q.2.1 q.2.2.2.1 q.2.2.2.2.1 q.2.2.2.2.2
def ev_wd (i : Nat) (w : Cond) : Bool := decide (lw_tbl[i]? = some w)
def ev_fokb (z : (Nat × Nat × Nat × Nat × Int32) × Nat × Nat) : Bool := match z with
  | ((oc, idx, ci, k, w), i, j) => match vwCl[ci]? with
    | none => false
    | some (C, T, N) => decide (k < N) && (if w == 0 then ev_wd i (Cond.fieldLink (ev_on oc) idx (T k).1 (T k).2.1 (T k).2.2.1)
      else if w == 1 then ev_wd i (Cond.fieldLinkNest (ev_on oc) idx (T k).1 (T k).2.1 (T k).2.2.1 "CreditLink")
      else ev_wd i (Cond.fieldLink (ev_on oc) idx C (T k).2.1 (T k).2.2.1) && ev_wd j (Cond.sameField C (T k).1 (T k).2.1 (T k).2.2.1))
set_option maxRecDepth 100000 in
theorem ev_fz_ok : ev_fz.all ev_fokb = true := by decide +kernel
set_option maxRecDepth 100000 in
theorem ev_fz_ft : ev_fz.map (fun z => z.1) = ev_ft := by rfl
def ev_mokb (z : (Nat × Nat × Nat × Nat) × Nat × Nat × Nat × Nat) : Bool := match z with
  | ((oc, idx, m, b), i1, i2, i3, i4) =>
    if b == 5 then ev_wd i1 (Cond.methodLink (ev_on oc) idx Lib.objectInit)
    else if b == 6 then ev_wd i1 (Cond.methodLink (ev_on oc) idx Lib.Math.max.name)
    else if b == 7 then ev_wd i1 (Cond.methodLink (ev_on oc) idx Lib.Math.min.name)
    else match ev_ms[m]? with
    | none => false
    | some ((y, _, _, _, _, _, kd, _, _), _) => ev_wd i2 (Cond.initialized y.cls) && (
      if b == 0 then ev_wd i1 (Cond.methodLink (ev_on oc) idx y) && ev_wd i3 (Cond.static y)
      else if b == 1 then ev_wd i1 (Cond.methodLink (ev_on oc) idx y) && ev_wd i3 (Cond.instanceMethod y) && ev_wd i4 (Cond.selects y.cls y y)
      else if b == 2 then ev_wd i1 (Cond.methodLink (ev_on oc) idx y) && ev_wd i3 (Cond.instanceMethod y) && decide (y.name = "<init>") && kd == 2
      else ev_wd i1 (Cond.methodLinkNest (ev_on oc) idx y "CreditLink") && ev_wd i3 (Cond.static y))
set_option maxRecDepth 100000 in
theorem ev_mz_ok : ev_mz.all ev_mokb = true := by decide +kernel
set_option maxRecDepth 100000 in
theorem ev_mz_mt : ev_mz.map (fun z => z.1) = ev_mt := by rfl
def ev_cokb (z : (Nat × Nat × Nat) × Nat × Nat × Nat) : Bool := match z with
  | ((oc, idx, ci), i1, i2, i3) => match vwCl[ci]? with
    | none => false
    | some (C, _, N) => ev_wd i1 (Cond.classLink (ev_on oc) idx C) && ev_wd i2 (Cond.instantiable C N) && ev_wd i3 (Cond.initialized C) && decide (N = ev_nf ci)
set_option maxRecDepth 100000 in
theorem ev_cz_ok : ev_cz.all ev_cokb = true := by decide +kernel
theorem ev_cz_ct : ev_cz.map (fun z => z.1) = ev_ct := by rfl
def ev_qn (t : Nat) : String := match t with
  | 4 => RX0
  | 5 => RX1
  | 6 => RX2
  | 7 => RX3
  | _ => "java/lang/Object"
def ev_qokb (z : (Nat × Nat × Nat) × Nat × Nat) : Bool := match z with
  | ((oc, idx, t), i1, i2) => decide (4 ≤ t ∧ t ≤ 8) && ev_wd i1 (Cond.classLink (ev_on oc) idx (ev_qn t)) && ev_wd i2 (Cond.arrayOver (.object (ev_qn t)))
set_option maxRecDepth 100000 in
theorem ev_qz_ok : ev_qz.all ev_qokb = true := by decide +kernel
theorem ev_qz_qt : ev_qz.map (fun z => z.1) = ev_qt := by rfl
def ev_kokb (z : (Nat × Nat × Int32) × Nat) : Bool := ev_wd z.2 (Cond.constant (ev_on z.1.1) z.1.2.1 z.1.2.2)
set_option maxRecDepth 100000 in
theorem ev_kz_ok : ev_kz.all ev_kokb = true := by decide +kernel
theorem ev_kz_kt : ev_kz.map (fun z => z.1) = ev_kt := by rfl
/-- the fields' words of a class are among the tables' -/
def ev_lokb (ci : Nat) : Bool := match vwCl[ci]?, ev_lz[ci]? with
  | some (C, T, N), some z => decide (z.length = N) && (List.range N).all (fun k => ev_wd (z.getD k 0) (u_lay C T k))
  | _, _ => false
set_option maxRecDepth 100000 in
theorem ev_lay_ok : (List.range 9).all ev_lokb = true := by decide +kernel
