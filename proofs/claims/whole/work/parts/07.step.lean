/-! ONE INSTRUCTION over the model heap, as a predicate: K holds of the next state (of all next states). A state: place, locals, stack, model heap, the heap's size, cells and slots made. -/
abbrev ev_F : Type := Nat × List (Nat × Value) × List Value × ev_H × Nat × Nat × Nat
abbrev ev_P : Type := Option Value → ev_H → Nat → Prop
def ev_at : List ev_I → Nat → Option ev_I
  | [], _ => none
  | q :: r, pc => if pc = q.1 then some q else ev_at r pc
theorem ev_at_mem {code : List ev_I} {pc : Nat} {q : ev_I} (h : ev_at code pc = some q) : q ∈ code ∧ pc = q.1 := by
  induction code with
  | nil => cases h
  | cons a r ih =>
    unfold ev_at at h
    split at h
    · next hp => cases h; exact ⟨List.mem_cons_self, hp⟩
    · exact ⟨List.mem_cons_of_mem _ (ih h).1, (ih h).2⟩
def ev_i (st : List Value) (k : Int32 → List Value → Prop) : Prop := match st with
  | .int v :: r => k v r
  | _ => False
def ev_l (st : List Value) (k : Int64 → List Value → Prop) : Prop := match st with
  | .long v :: r => k v r
  | _ => False
def ev_r (st : List Value) (k : Nat → List Value → Prop) : Prop := match st with
  | .ref v :: r => k v r
  | _ => False
/-- a value of one word on the stack -/
def ev_w (st : List Value) (k : Value → List Value → Prop) : Prop := match st with
  | .int v :: r => k (.int v) r
  | .ref v :: r => k (.ref v) r
  | .null :: r => k .null r
  | _ => False
/-- a reference or null -/
def ev_q (st : List Value) (k : Option Nat → List Value → Prop) : Prop := match st with
  | .ref v :: r => k (some v) r
  | .null :: r => k none r
  | _ => False
def ev_ii (st : List Value) (k : Int32 → Int32 → List Value → Prop) : Prop := ev_i st fun v2 r => ev_i r fun v1 r => k v1 v2 r
def ev_loc : List (Nat × Value) → Nat → (Value → Prop) → Prop
  | [], _, _ => False
  | (j, v) :: r, i, k => if j = i then k v else ev_loc r i k
def ev_vi (v : Value) (k : Int32 → Prop) : Prop := match v with
  | .int n => k n
  | _ => False
def ev_vq (v : Value) (k : Value → Prop) : Prop := match v with
  | .ref a => k (.ref a)
  | .null => k .null
  | _ => False
def ev_del : List (Nat × Value) → Nat → List (Nat × Value)
  | [], _ => []
  | (j, v) :: r, i => if j = i then ev_del r i else (j, v) :: ev_del r i
def ev_set : List (Nat × Value) → Nat → Value → List (Nat × Value)
  | [], i, v => [(i, v)]
  | (j, w) :: r, i, v => if j = i then (i, v) :: ev_del r i else (j, w) :: ev_set r i v
def ev_ob (e : Option va_E) (ci : Nat) (k : List Value → Prop) : Prop := match e with
  | some (.inr (c, fs)) => c = ci ∧ k fs
  | _ => False
def ev_nth (fs : List Value) (j : Nat) (k : Value → Prop) : Prop := match fs[j]? with
  | some v => k v
  | none => False
def ev_ai (e : Option va_E) (cA : ClassId) (k : Nat → (Nat → Int32) → Prop) : Prop := match e with
  | some (.inl (c, n, .inl g)) => c = cA ∧ k n g
  | _ => False
def ev_al (e : Option va_E) (cA : ClassId) (k : Nat → (Nat → Int64) → Prop) : Prop := match e with
  | some (.inl (c, n, .inr (.inl g))) => c = cA ∧ k n g
  | _ => False
/-- an array of references: of any of the kinds -/
def ev_aq (e : Option va_E) (k : ClassId → Nat → (Nat → Option Nat) → Prop) : Prop := match e with
  | some (.inl (c, n, .inr (.inr (.inr (.inr g))))) => k c n g
  | _ => False
def ev_len (e : Option va_E) (k : Nat → Prop) : Prop := match e with
  | some (.inl (_, n, _)) => k n
  | _ => False
def ev_br (c a b : Prop) : Prop := (c → a) ∧ (¬ c → b)
/-- what a field or an answer of a type may be -/
def ev_fit (ty : FieldType) (v : Value) : Prop := match ty, v with
  | .int, .int _ => True
  | .boolean, .int n => n = 0 ∨ n = 1
  | .object _, .ref _ => True
  | .object _, .null => True
  | .array _, .ref _ => True
  | .array _, .null => True
  | _, _ => False
def ev_pop : Nat → List Value → List Value → (List Value → List Value → Prop) → Prop
  | 0, st, acc, k => k acc st
  | _ + 1, [], _, _ => False
  | n + 1, v :: st, acc, k => ev_pop n st (v :: acc) k
def ev_new (ci : Nat) : List Value := (List.range (ev_nf ci)).map fun k => defaultValue (ev_ty ci k)
def ev_tyl (cy : Nat → ClassId) : List (ClassId × FieldType) := [(cy 0, .byte), (cy 1, .int), (cy 2, .boolean), (cy 3, .long), (cy 4, .object RX0), (cy 5, .object RX1), (cy 6, .object RX2), (cy 7, .object RX3), (cy 8, .object "java/lang/Object")]
/-- which kind of array a class's bytes are: the model has booleans -/
def ev_bt (oc : Nat) : Nat := if oc = 7 then 2 else 0
def ev_bn (oc : Nat) (v : Int32) : Int32 := if oc = 7 then vp_nar .boolean v else vp_nar .byte v
def ev_to (pc : Nat) (off : Int) (k : Nat → Prop) : Prop := 0 ≤ (pc : Int) + off ∧ k ((pc : Int) + off).toNat
def ev_sw (lo : Int) (offs : List Int) (pc : Nat) (v : Int) (k : Nat → Prop) : Prop := match offs[(v - lo).toNat]? with
  | some off => ev_to pc off k
  | none => False
def ev_co (oc : Nat) : Nat := if oc = 8 then 0 else oc + 1
def ev_rcv (way : Nat) (f : ev_H) (oc : Nat) (as : List Value) : Prop := match way with
  | 0 => True
  | 1 => match as with
    | .ref q :: _ => ev_ob (f q) (ev_co oc) fun _ => True
    | _ => False
  | _ => match as with
    | .ref _ :: _ => True
    | _ => False
section ES
variable (cy : Nat → ClassId) (call : Nat → List Value → ev_H → Nat → ev_P → Prop) (sp : ev_F → (ev_F → Prop) → Prop) (oc mc ms nl : Nat) (rt : Option FieldType) (code : List ev_I)
/-- a call of the method m, with its arguments (the receiver first), its budget; way 0: static, 1: by the receiver, 2: a constructor -/
def ev_inv (K : ev_F → Prop) (g : ev_F) (m way : Nat) : Prop := match ev_ms[m]? with
  | none => False
  | some ((_, _, _, _, oc', na, _, dc, ds), _) => match g with
    | (pc, L, st, f, n, c, sl) => ev_pop (if way = 0 then na else na + 1) st [] fun as r =>
        (r.map fun v => v.category).sum ≤ 8 ∧ c + dc ≤ mc ∧ sl + ds ≤ ms ∧ ev_rcv way f oc' as ∧ call m as f n fun v f' n' => K (pc + 3, L, v.toList ++ r, f', n', c + dc, sl + ds)
def ev_step (K : ev_F → Prop) (Ret : ev_P) (g : ev_F) : Prop := match g with
  | (pc, L, st, f, n, c, sl) => match ev_at code pc with
    | none => False
    | some (_, i, len, a, b, w) =>
      if b = 99 then sp (pc, L, st, f, n, c, sl) K else
      match i with
      | .iconst _ => K (pc + len, L, .int w :: st, f, n, c, sl)
      | .bipush _ => K (pc + len, L, .int w :: st, f, n, c, sl)
      | .sipush _ => K (pc + len, L, .int w :: st, f, n, c, sl)
      | .ldc _ => K (pc + len, L, .int w :: st, f, n, c, sl)
      | .ldc_w _ => K (pc + len, L, .int w :: st, f, n, c, sl)
      | .aconst_null => K (pc + len, L, .null :: st, f, n, c, sl)
      | .lconst k => K (pc + len, L, .long (Int64.ofNat (k : Nat)) :: st, f, n, c, sl)
      | .iload_n j => ev_loc L j fun v => ev_vi v fun v => K (pc + len, L, .int v :: st, f, n, c, sl)
      | .iload j => ev_loc L j fun v => ev_vi v fun v => K (pc + len, L, .int v :: st, f, n, c, sl)
      | .aload_n j => ev_loc L j fun v => ev_vq v fun v => K (pc + len, L, v :: st, f, n, c, sl)
      | .aload j => ev_loc L j fun v => ev_vq v fun v => K (pc + len, L, v :: st, f, n, c, sl)
      | .istore_n j => (j : Nat) < nl ∧ ev_i st fun v r => K (pc + len, ev_set L j (.int v), r, f, n, c, sl)
      | .istore j => j < nl ∧ ev_i st fun v r => K (pc + len, ev_set L j (.int v), r, f, n, c, sl)
      | .astore_n j => (j : Nat) < nl ∧ ev_q st fun v r => K (pc + len, ev_set L j (va_rf v), r, f, n, c, sl)
      | .astore j => j < nl ∧ ev_q st fun v r => K (pc + len, ev_set L j (va_rf v), r, f, n, c, sl)
      | .iinc j _ => j < nl ∧ ev_loc L j fun v => ev_vi v fun v => K (pc + len, ev_set L j (.int (v + w)), st, f, n, c, sl)
      | .iadd => ev_ii st fun u v r => K (pc + len, L, .int (u + v) :: r, f, n, c, sl)
      | .isub => ev_ii st fun u v r => K (pc + len, L, .int (u - v) :: r, f, n, c, sl)
      | .imul => ev_ii st fun u v r => K (pc + len, L, .int (u * v) :: r, f, n, c, sl)
      | .iand => ev_ii st fun u v r => K (pc + len, L, .int (u &&& v) :: r, f, n, c, sl)
      | .ior => ev_ii st fun u v r => K (pc + len, L, .int (u ||| v) :: r, f, n, c, sl)
      | .ishl => ev_ii st fun u v r => K (pc + len, L, .int (u <<< (v &&& 31)) :: r, f, n, c, sl)
      | .ishr => ev_ii st fun u v r => K (pc + len, L, .int (u >>> (v &&& 31)) :: r, f, n, c, sl)
      | .idiv => ev_ii st fun u v r => ¬ v = 0 ∧ K (pc + len, L, .int (u / v) :: r, f, n, c, sl)
      | .irem => ev_ii st fun u v r => ¬ v = 0 ∧ K (pc + len, L, .int (u - u / v * v) :: r, f, n, c, sl)
      | .i2b => ev_i st fun u r => K (pc + len, L, .int u.toInt8.toInt32 :: r, f, n, c, sl)
      | .i2l => ev_i st fun u r => K (pc + len, L, .long u.toInt64 :: r, f, n, c, sl)
      | .lcmp => ev_l st fun v r => ev_l r fun u r => K (pc + len, L, .int (lg_cmp u v) :: r, f, n, c, sl)
      | .dup => ev_w st fun u r => K (pc + len, L, u :: u :: r, f, n, c, sl)
      | .dup_x1 => ev_w st fun u r => ev_w r fun v r => K (pc + len, L, u :: v :: u :: r, f, n, c, sl)
      | .dup2 => ev_w st fun u r => ev_w r fun v r => K (pc + len, L, u :: v :: u :: v :: r, f, n, c, sl)
      | .pop => ev_w st fun _ r => K (pc + len, L, r, f, n, c, sl)
      | .goto _ => K (a, L, st, f, n, c, sl)
      | .ifnull _ => ev_q st fun u r => ev_br (u = none) (K (a, L, r, f, n, c, sl)) (K (pc + len, L, r, f, n, c, sl))
      | .ifnonnull _ => ev_q st fun u r => ev_br (u = none) (K (pc + len, L, r, f, n, c, sl)) (K (a, L, r, f, n, c, sl))
      | .ifCond .eq _ => ev_i st fun u r => ev_br (u = 0) (K (a, L, r, f, n, c, sl)) (K (pc + len, L, r, f, n, c, sl))
      | .ifCond .ne _ => ev_i st fun u r => ev_br (u = 0) (K (pc + len, L, r, f, n, c, sl)) (K (a, L, r, f, n, c, sl))
      | .ifCond .lt _ => ev_i st fun u r => ev_br (u < 0) (K (a, L, r, f, n, c, sl)) (K (pc + len, L, r, f, n, c, sl))
      | .ifCond .ge _ => ev_i st fun u r => ev_br (u < 0) (K (pc + len, L, r, f, n, c, sl)) (K (a, L, r, f, n, c, sl))
      | .ifCond .le _ => ev_i st fun u r => ev_br (u ≤ 0) (K (a, L, r, f, n, c, sl)) (K (pc + len, L, r, f, n, c, sl))
      | .ifCond .gt _ => ev_i st fun u r => ev_br (u ≤ 0) (K (pc + len, L, r, f, n, c, sl)) (K (a, L, r, f, n, c, sl))
      | .if_icmp .eq _ => ev_ii st fun u v r => ev_br (u = v) (K (a, L, r, f, n, c, sl)) (K (pc + len, L, r, f, n, c, sl))
      | .if_icmp .ne _ => ev_ii st fun u v r => ev_br (u = v) (K (pc + len, L, r, f, n, c, sl)) (K (a, L, r, f, n, c, sl))
      | .if_icmp .lt _ => ev_ii st fun u v r => ev_br (u < v) (K (a, L, r, f, n, c, sl)) (K (pc + len, L, r, f, n, c, sl))
      | .if_icmp .ge _ => ev_ii st fun u v r => ev_br (u < v) (K (pc + len, L, r, f, n, c, sl)) (K (a, L, r, f, n, c, sl))
      | .if_icmp .le _ => ev_ii st fun u v r => ev_br (u ≤ v) (K (a, L, r, f, n, c, sl)) (K (pc + len, L, r, f, n, c, sl))
      | .if_icmp .gt _ => ev_ii st fun u v r => ev_br (u ≤ v) (K (pc + len, L, r, f, n, c, sl)) (K (a, L, r, f, n, c, sl))
      | .tableswitch d lo hi offs => ev_i st fun u r => ((u.toInt < lo ∨ hi < u.toInt) → ev_to pc d fun tgt => K (tgt, L, r, f, n, c, sl)) ∧ (¬ u.toInt < lo → ¬ hi < u.toInt → ev_sw lo offs.toList pc u.toInt fun tgt => K (tgt, L, r, f, n, c, sl))
      | .lookupswitch d ps => ev_i st fun u r => ev_to pc (Op.lookupswitch.offset ps.toList d u.toInt) fun tgt => K (tgt, L, r, f, n, c, sl)
      | .getfield _ => ev_r st fun q r => ev_ob (f q) a fun fs => ev_nth fs b fun v => K (pc + len, L, v :: r, f, n, c, sl)
      | .putfield _ => ev_w st fun v r => ev_r r fun q r => ev_ob (f q) a fun fs => b < fs.length ∧ ev_fit (ev_ty a b) v ∧ K (pc + len, L, r, va_up f q (some (.inr (a, fs.set b v))), n, c, sl)
      | .arraylength => ev_r st fun q r => ev_len (f q) fun z => K (pc + len, L, .int (Int32.ofNat z) :: r, f, n, c, sl)
      | .iaload => ev_i st fun u r => ev_r r fun q r => ev_ai (f q) (cy 1) fun z g => vp_in u z ∧ K (pc + len, L, .int (g u.toNatClampNeg) :: r, f, n, c, sl)
      | .baload => ev_i st fun u r => ev_r r fun q r => ev_ai (f q) (cy (ev_bt oc)) fun z g => vp_in u z ∧ K (pc + len, L, .int (g u.toNatClampNeg) :: r, f, n, c, sl)
      | .laload => ev_i st fun u r => ev_r r fun q r => ev_al (f q) (cy 3) fun z g => vp_in u z ∧ K (pc + len, L, .long (g u.toNatClampNeg) :: r, f, n, c, sl)
      | .aaload => ev_i st fun u r => ev_r r fun q r => ev_aq (f q) fun _ z g => vp_in u z ∧ K (pc + len, L, va_rf (g u.toNatClampNeg) :: r, f, n, c, sl)
      | .iastore => ev_i st fun v r => ev_i r fun u r => ev_r r fun q r => ev_ai (f q) (cy 1) fun z g => vp_in u z ∧ K (pc + len, L, r, va_up f q (some (.inl (cy 1, z, .inl (upd g u.toNatClampNeg v)))), n, c, sl)
      | .bastore => ev_i st fun v r => ev_i r fun u r => ev_r r fun q r => ev_ai (f q) (cy (ev_bt oc)) fun z g => vp_in u z ∧ K (pc + len, L, r, va_up f q (some (.inl (cy (ev_bt oc), z, .inl (upd g u.toNatClampNeg (ev_bn oc v))))), n, c, sl)
      | .lastore => ev_l st fun v r => ev_i r fun u r => ev_r r fun q r => ev_al (f q) (cy 3) fun z g => vp_in u z ∧ K (pc + len, L, r, va_up f q (some (.inl (cy 3, z, .inr (.inl (vp_updL g u.toNatClampNeg v))))), n, c, sl)
      | .aastore => ev_q st fun v r => ev_i r fun u r => ev_r r fun q r => ev_aq (f q) fun cA z g => cA = cy a ∧ vp_in u z ∧ (match v with | none => True | some v => ev_ob (f v) b fun _ => True) ∧ K (pc + len, L, r, va_up f q (some (.inl (cy a, z, .inr (.inr (.inr (.inr (va_up g u.toNatClampNeg v))))))), n, c, sl)
      | .new _ => c + 1 ≤ mc ∧ sl + ev_nf a ≤ ms ∧ K (pc + len, L, .ref n :: st, va_up f n (some (.inr (a, ev_new a))), n + 1, c + 1, sl + ev_nf a)
      | .newarray ty => a < 4 ∧ ev_i st fun u r => ¬ u < 0 ∧ c + 1 ≤ mc ∧ sl + u.toNatClampNeg ≤ ms ∧ u.toNatClampNeg * 8 ≤ 536870912 ∧ K (pc + len, L, .ref n :: r, va_up f n (some (.inl (cy a, u.toNatClampNeg, match ty with | .long => .inr (.inl fun _ => 0) | _ => .inl fun _ => 0))), n + 1, c + 1, sl + u.toNatClampNeg)
      | .anewarray _ => ev_i st fun u r => ¬ u < 0 ∧ c + 1 ≤ mc ∧ sl + u.toNatClampNeg ≤ ms ∧ u.toNatClampNeg * 4 ≤ 536870912 ∧ K (pc + len, L, .ref n :: r, va_up f n (some (.inl (cy a, u.toNatClampNeg, .inr (.inr (.inr (.inr fun _ => none)))))), n + 1, c + 1, sl + u.toNatClampNeg)
      | .invokestatic _ => if b = 6 then ev_ii st fun u v r => (r.map fun v => v.category).sum ≤ 8 ∧ K (pc + len, L, .int (if u < v then v else u) :: r, f, n, c, sl) else if b = 7 then ev_ii st fun u v r => (r.map fun v => v.category).sum ≤ 8 ∧ K (pc + len, L, .int (if v < u then v else u) :: r, f, n, c, sl) else ev_inv call mc ms K (pc, L, st, f, n, c, sl) a 0
      | .invokespecial _ => if b = 5 then ev_r st fun _ r => (r.map fun v => v.category).sum ≤ 8 ∧ K (pc + len, L, r, f, n, c, sl) else ev_inv call mc ms K (pc, L, st, f, n, c, sl) a 2
      | .invokevirtual _ => ev_inv call mc ms K (pc, L, st, f, n, c, sl) a 1
      | .checkcast _ => ev_q st fun u r => (match u with | none => True | some q => ev_ob (f q) a fun _ => True) ∧ K (pc + len, L, va_rf u :: r, f, n, c, sl)
      | .ireturn => match rt with
        | some ty => ev_i st fun v r => ev_fit ty (.int v) ∧ r = [] ∧ Ret (some (.int v)) f n
        | none => False
      | .areturn => match rt with
        | some ty => ev_q st fun v r => ev_fit ty (va_rf v) ∧ r = [] ∧ Ret (some (va_rf v)) f n
        | none => False
      | .return_ => match rt with
        | none => st = [] ∧ Ret none f n
        | some _ => False
      | _ => False
end ES
