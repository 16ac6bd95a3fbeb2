/-! STEPS OVER THE FLAT MEMORY: goal first, one row an instruction; 'pc2' is where it goes on. -/
section FS
variable {cy : Nat → ClassId} {z0 : Nat} {call : Nat → List Value → ev_H → Nat → ev_P → Prop} {oc mc ms nl : Nat} {rt : Option FieldType} {code : List ev_I} {Ret : ev_P}
variable {pc pc2 pc3 len a b q0 : Nat} {w : Int32} {L : List (Nat × Value)} {st r : List Value} {sh : fl_S} {V : fl_V} {n c sl : Nat}
variable {sp : ev_F → (ev_F → Prop) → Prop}
def fl_Q (cy : Nat → ClassId) (z0 : Nat) (call : Nat → List Value → ev_H → Nat → ev_P → Prop) (sp : ev_F → (ev_F → Prop) → Prop) (oc mc ms nl : Nat) (rt : Option FieldType) (code : List ev_I) (Ret : ev_P) (pc : Nat) (L : List (Nat × Value)) (st : List Value) (sh : fl_S) (V : fl_V) (n c sl : Nat) : Prop := ev_R cy call sp oc mc ms nl rt code Ret (pc, L, st, fl_f cy z0 sh V, z0 + n, c, sl)
abbrev fl_R (cy : Nat → ClassId) (z0 : Nat) (call : Nat → List Value → ev_H → Nat → ev_P → Prop) (oc mc ms nl : Nat) (rt : Option FieldType) (code : List ev_I) (Ret : ev_P) (pc : Nat) (L : List (Nat × Value)) (st : List Value) (sh : fl_S) (V : fl_V) (n c sl : Nat) : Prop := fl_Q cy z0 call (fun _ _ => False) oc mc ms nl rt code Ret pc L st sh V n c sl
theorem fs_iconst {k : Int} (hat : ev_at code pc = some (q0, .iconst k, len, a, b, w)) (hb : (b == 99) = false) (hp : pc + len = pc2) (h : fl_Q cy z0 call sp oc mc ms nl rt code Ret pc2 L (.int w :: st) sh V n c sl) : fl_Q cy z0 call sp oc mc ms nl rt code Ret pc L (st) sh V n c sl := by
  refine ev_R.step ?_
  unfold ev_step
  dsimp only
  rw [hat]
  dsimp only
  rw [if_neg (fun q => by rw [q] at hb; cases hb)]
  rw [hp]
  exact h
theorem fs_bipush {k : Int} (hat : ev_at code pc = some (q0, .bipush k, len, a, b, w)) (hb : (b == 99) = false) (hp : pc + len = pc2) (h : fl_Q cy z0 call sp oc mc ms nl rt code Ret pc2 L (.int w :: st) sh V n c sl) : fl_Q cy z0 call sp oc mc ms nl rt code Ret pc L (st) sh V n c sl := by
  refine ev_R.step ?_
  unfold ev_step
  dsimp only
  rw [hat]
  dsimp only
  rw [if_neg (fun q => by rw [q] at hb; cases hb)]
  rw [hp]
  exact h
theorem fs_sipush {k : Int} (hat : ev_at code pc = some (q0, .sipush k, len, a, b, w)) (hb : (b == 99) = false) (hp : pc + len = pc2) (h : fl_Q cy z0 call sp oc mc ms nl rt code Ret pc2 L (.int w :: st) sh V n c sl) : fl_Q cy z0 call sp oc mc ms nl rt code Ret pc L (st) sh V n c sl := by
  refine ev_R.step ?_
  unfold ev_step
  dsimp only
  rw [hat]
  dsimp only
  rw [if_neg (fun q => by rw [q] at hb; cases hb)]
  rw [hp]
  exact h
theorem fs_ldc {k : Nat} (hat : ev_at code pc = some (q0, .ldc k, len, a, b, w)) (hb : (b == 99) = false) (hp : pc + len = pc2) (h : fl_Q cy z0 call sp oc mc ms nl rt code Ret pc2 L (.int w :: st) sh V n c sl) : fl_Q cy z0 call sp oc mc ms nl rt code Ret pc L (st) sh V n c sl := by
  refine ev_R.step ?_
  unfold ev_step
  dsimp only
  rw [hat]
  dsimp only
  rw [if_neg (fun q => by rw [q] at hb; cases hb)]
  rw [hp]
  exact h
theorem fs_ldc_w {k : Nat} (hat : ev_at code pc = some (q0, .ldc_w k, len, a, b, w)) (hb : (b == 99) = false) (hp : pc + len = pc2) (h : fl_Q cy z0 call sp oc mc ms nl rt code Ret pc2 L (.int w :: st) sh V n c sl) : fl_Q cy z0 call sp oc mc ms nl rt code Ret pc L (st) sh V n c sl := by
  refine ev_R.step ?_
  unfold ev_step
  dsimp only
  rw [hat]
  dsimp only
  rw [if_neg (fun q => by rw [q] at hb; cases hb)]
  rw [hp]
  exact h
theorem fs_null (hat : ev_at code pc = some (q0, .aconst_null, len, a, b, w)) (hb : (b == 99) = false) (hp : pc + len = pc2) (h : fl_Q cy z0 call sp oc mc ms nl rt code Ret pc2 L (.null :: st) sh V n c sl) : fl_Q cy z0 call sp oc mc ms nl rt code Ret pc L (st) sh V n c sl := by
  refine ev_R.step ?_
  unfold ev_step
  dsimp only
  rw [hat]
  dsimp only
  rw [if_neg (fun q => by rw [q] at hb; cases hb)]
  rw [hp]
  exact h
theorem fs_iload_n {k : Fin 4} {v : Int32} (hat : ev_at code pc = some (q0, .iload_n k, len, a, b, w)) (hb : (b == 99) = false) (hp : pc + len = pc2) (hL : ev_lk L (k : Nat) = some (.int v)) (h : fl_Q cy z0 call sp oc mc ms nl rt code Ret pc2 L (.int v :: st) sh V n c sl) : fl_Q cy z0 call sp oc mc ms nl rt code Ret pc L (st) sh V n c sl := by
  refine ev_R.step ?_
  unfold ev_step
  dsimp only
  rw [hat]
  dsimp only
  rw [if_neg (fun q => by rw [q] at hb; cases hb)]
  rw [hp]
  exact ev_lk_s hL h
theorem fs_iload {k : Nat} {v : Int32} (hat : ev_at code pc = some (q0, .iload k, len, a, b, w)) (hb : (b == 99) = false) (hp : pc + len = pc2) (hL : ev_lk L (k : Nat) = some (.int v)) (h : fl_Q cy z0 call sp oc mc ms nl rt code Ret pc2 L (.int v :: st) sh V n c sl) : fl_Q cy z0 call sp oc mc ms nl rt code Ret pc L (st) sh V n c sl := by
  refine ev_R.step ?_
  unfold ev_step
  dsimp only
  rw [hat]
  dsimp only
  rw [if_neg (fun q => by rw [q] at hb; cases hb)]
  rw [hp]
  exact ev_lk_s hL h
theorem fs_aload_n {k : Fin 4} {v : Nat} (hat : ev_at code pc = some (q0, .aload_n k, len, a, b, w)) (hb : (b == 99) = false) (hp : pc + len = pc2) (hL : ev_lk L (k : Nat) = some (.ref v)) (h : fl_Q cy z0 call sp oc mc ms nl rt code Ret pc2 L (.ref v :: st) sh V n c sl) : fl_Q cy z0 call sp oc mc ms nl rt code Ret pc L (st) sh V n c sl := by
  refine ev_R.step ?_
  unfold ev_step
  dsimp only
  rw [hat]
  dsimp only
  rw [if_neg (fun q => by rw [q] at hb; cases hb)]
  rw [hp]
  exact ev_lk_s hL h
theorem fs_aload_n0 {k : Fin 4} (hat : ev_at code pc = some (q0, .aload_n k, len, a, b, w)) (hb : (b == 99) = false) (hp : pc + len = pc2) (hL : ev_lk L (k : Nat) = some .null) (h : fl_Q cy z0 call sp oc mc ms nl rt code Ret pc2 L (.null :: st) sh V n c sl) : fl_Q cy z0 call sp oc mc ms nl rt code Ret pc L (st) sh V n c sl := by
  refine ev_R.step ?_
  unfold ev_step
  dsimp only
  rw [hat]
  dsimp only
  rw [if_neg (fun q => by rw [q] at hb; cases hb)]
  rw [hp]
  exact ev_lk_s hL h
theorem fs_aload {k : Nat} {v : Nat} (hat : ev_at code pc = some (q0, .aload k, len, a, b, w)) (hb : (b == 99) = false) (hp : pc + len = pc2) (hL : ev_lk L (k : Nat) = some (.ref v)) (h : fl_Q cy z0 call sp oc mc ms nl rt code Ret pc2 L (.ref v :: st) sh V n c sl) : fl_Q cy z0 call sp oc mc ms nl rt code Ret pc L (st) sh V n c sl := by
  refine ev_R.step ?_
  unfold ev_step
  dsimp only
  rw [hat]
  dsimp only
  rw [if_neg (fun q => by rw [q] at hb; cases hb)]
  rw [hp]
  exact ev_lk_s hL h
theorem fs_aload0 {k : Nat} (hat : ev_at code pc = some (q0, .aload k, len, a, b, w)) (hb : (b == 99) = false) (hp : pc + len = pc2) (hL : ev_lk L (k : Nat) = some .null) (h : fl_Q cy z0 call sp oc mc ms nl rt code Ret pc2 L (.null :: st) sh V n c sl) : fl_Q cy z0 call sp oc mc ms nl rt code Ret pc L (st) sh V n c sl := by
  refine ev_R.step ?_
  unfold ev_step
  dsimp only
  rw [hat]
  dsimp only
  rw [if_neg (fun q => by rw [q] at hb; cases hb)]
  rw [hp]
  exact ev_lk_s hL h
theorem fs_istore_n {k : Fin 4} {v : Int32} (hat : ev_at code pc = some (q0, .istore_n k, len, a, b, w)) (hb : (b == 99) = false) (hp : pc + len = pc2) (hk : (k : Nat) < nl) (h : fl_Q cy z0 call sp oc mc ms nl rt code Ret pc2 (ev_set L (k : Nat) (.int v)) (r) sh V n c sl) : fl_Q cy z0 call sp oc mc ms nl rt code Ret pc L (.int v :: r) sh V n c sl := by
  refine ev_R.step ?_
  unfold ev_step
  dsimp only
  rw [hat]
  dsimp only
  rw [if_neg (fun q => by rw [q] at hb; cases hb)]
  rw [hp]
  exact ⟨hk, h⟩
theorem fs_istore {k : Nat} {v : Int32} (hat : ev_at code pc = some (q0, .istore k, len, a, b, w)) (hb : (b == 99) = false) (hp : pc + len = pc2) (hk : (k : Nat) < nl) (h : fl_Q cy z0 call sp oc mc ms nl rt code Ret pc2 (ev_set L (k : Nat) (.int v)) (r) sh V n c sl) : fl_Q cy z0 call sp oc mc ms nl rt code Ret pc L (.int v :: r) sh V n c sl := by
  refine ev_R.step ?_
  unfold ev_step
  dsimp only
  rw [hat]
  dsimp only
  rw [if_neg (fun q => by rw [q] at hb; cases hb)]
  rw [hp]
  exact ⟨hk, h⟩
theorem fs_astore_n {k : Fin 4} {v : Nat} (hat : ev_at code pc = some (q0, .astore_n k, len, a, b, w)) (hb : (b == 99) = false) (hp : pc + len = pc2) (hk : (k : Nat) < nl) (h : fl_Q cy z0 call sp oc mc ms nl rt code Ret pc2 (ev_set L (k : Nat) (.ref v)) (r) sh V n c sl) : fl_Q cy z0 call sp oc mc ms nl rt code Ret pc L (.ref v :: r) sh V n c sl := by
  refine ev_R.step ?_
  unfold ev_step
  dsimp only
  rw [hat]
  dsimp only
  rw [if_neg (fun q => by rw [q] at hb; cases hb)]
  rw [hp]
  exact ⟨hk, h⟩
theorem fs_astore_n0 {k : Fin 4} (hat : ev_at code pc = some (q0, .astore_n k, len, a, b, w)) (hb : (b == 99) = false) (hp : pc + len = pc2) (hk : (k : Nat) < nl) (h : fl_Q cy z0 call sp oc mc ms nl rt code Ret pc2 (ev_set L (k : Nat) .null) (r) sh V n c sl) : fl_Q cy z0 call sp oc mc ms nl rt code Ret pc L (.null :: r) sh V n c sl := by
  refine ev_R.step ?_
  unfold ev_step
  dsimp only
  rw [hat]
  dsimp only
  rw [if_neg (fun q => by rw [q] at hb; cases hb)]
  rw [hp]
  exact ⟨hk, h⟩
theorem fs_astore {k : Nat} {v : Nat} (hat : ev_at code pc = some (q0, .astore k, len, a, b, w)) (hb : (b == 99) = false) (hp : pc + len = pc2) (hk : (k : Nat) < nl) (h : fl_Q cy z0 call sp oc mc ms nl rt code Ret pc2 (ev_set L (k : Nat) (.ref v)) (r) sh V n c sl) : fl_Q cy z0 call sp oc mc ms nl rt code Ret pc L (.ref v :: r) sh V n c sl := by
  refine ev_R.step ?_
  unfold ev_step
  dsimp only
  rw [hat]
  dsimp only
  rw [if_neg (fun q => by rw [q] at hb; cases hb)]
  rw [hp]
  exact ⟨hk, h⟩
theorem fs_astore0 {k : Nat} (hat : ev_at code pc = some (q0, .astore k, len, a, b, w)) (hb : (b == 99) = false) (hp : pc + len = pc2) (hk : (k : Nat) < nl) (h : fl_Q cy z0 call sp oc mc ms nl rt code Ret pc2 (ev_set L (k : Nat) .null) (r) sh V n c sl) : fl_Q cy z0 call sp oc mc ms nl rt code Ret pc L (.null :: r) sh V n c sl := by
  refine ev_R.step ?_
  unfold ev_step
  dsimp only
  rw [hat]
  dsimp only
  rw [if_neg (fun q => by rw [q] at hb; cases hb)]
  rw [hp]
  exact ⟨hk, h⟩
theorem fs_iinc {k : Nat} {x : Int} {v : Int32} (hat : ev_at code pc = some (q0, .iinc k x, len, a, b, w)) (hb : (b == 99) = false) (hp : pc + len = pc2) (hk : k < nl) (hL : ev_lk L k = some (.int v)) (h : fl_Q cy z0 call sp oc mc ms nl rt code Ret pc2 (ev_set L k (.int (v + w))) (st) sh V n c sl) : fl_Q cy z0 call sp oc mc ms nl rt code Ret pc L (st) sh V n c sl := by
  refine ev_R.step ?_
  unfold ev_step
  dsimp only
  rw [hat]
  dsimp only
  rw [if_neg (fun q => by rw [q] at hb; cases hb)]
  rw [hp]
  exact ⟨hk, ev_lk_s hL h⟩
theorem fs_iadd {u v : Int32} (hat : ev_at code pc = some (q0, .iadd, len, a, b, w)) (hb : (b == 99) = false) (hp : pc + len = pc2) (h : fl_Q cy z0 call sp oc mc ms nl rt code Ret pc2 L (.int (u + v) :: r) sh V n c sl) : fl_Q cy z0 call sp oc mc ms nl rt code Ret pc L (.int v :: .int u :: r) sh V n c sl := by
  refine ev_R.step ?_
  unfold ev_step
  dsimp only
  rw [hat]
  dsimp only
  rw [if_neg (fun q => by rw [q] at hb; cases hb)]
  rw [hp]
  exact h
theorem fs_isub {u v : Int32} (hat : ev_at code pc = some (q0, .isub, len, a, b, w)) (hb : (b == 99) = false) (hp : pc + len = pc2) (h : fl_Q cy z0 call sp oc mc ms nl rt code Ret pc2 L (.int (u - v) :: r) sh V n c sl) : fl_Q cy z0 call sp oc mc ms nl rt code Ret pc L (.int v :: .int u :: r) sh V n c sl := by
  refine ev_R.step ?_
  unfold ev_step
  dsimp only
  rw [hat]
  dsimp only
  rw [if_neg (fun q => by rw [q] at hb; cases hb)]
  rw [hp]
  exact h
theorem fs_imul {u v : Int32} (hat : ev_at code pc = some (q0, .imul, len, a, b, w)) (hb : (b == 99) = false) (hp : pc + len = pc2) (h : fl_Q cy z0 call sp oc mc ms nl rt code Ret pc2 L (.int (u * v) :: r) sh V n c sl) : fl_Q cy z0 call sp oc mc ms nl rt code Ret pc L (.int v :: .int u :: r) sh V n c sl := by
  refine ev_R.step ?_
  unfold ev_step
  dsimp only
  rw [hat]
  dsimp only
  rw [if_neg (fun q => by rw [q] at hb; cases hb)]
  rw [hp]
  exact h
theorem fs_iand {u v : Int32} (hat : ev_at code pc = some (q0, .iand, len, a, b, w)) (hb : (b == 99) = false) (hp : pc + len = pc2) (h : fl_Q cy z0 call sp oc mc ms nl rt code Ret pc2 L (.int (u &&& v) :: r) sh V n c sl) : fl_Q cy z0 call sp oc mc ms nl rt code Ret pc L (.int v :: .int u :: r) sh V n c sl := by
  refine ev_R.step ?_
  unfold ev_step
  dsimp only
  rw [hat]
  dsimp only
  rw [if_neg (fun q => by rw [q] at hb; cases hb)]
  rw [hp]
  exact h
theorem fs_ior {u v : Int32} (hat : ev_at code pc = some (q0, .ior, len, a, b, w)) (hb : (b == 99) = false) (hp : pc + len = pc2) (h : fl_Q cy z0 call sp oc mc ms nl rt code Ret pc2 L (.int (u ||| v) :: r) sh V n c sl) : fl_Q cy z0 call sp oc mc ms nl rt code Ret pc L (.int v :: .int u :: r) sh V n c sl := by
  refine ev_R.step ?_
  unfold ev_step
  dsimp only
  rw [hat]
  dsimp only
  rw [if_neg (fun q => by rw [q] at hb; cases hb)]
  rw [hp]
  exact h
theorem fs_ishl {u v : Int32} (hat : ev_at code pc = some (q0, .ishl, len, a, b, w)) (hb : (b == 99) = false) (hp : pc + len = pc2) (h : fl_Q cy z0 call sp oc mc ms nl rt code Ret pc2 L (.int (u <<< (v &&& 31)) :: r) sh V n c sl) : fl_Q cy z0 call sp oc mc ms nl rt code Ret pc L (.int v :: .int u :: r) sh V n c sl := by
  refine ev_R.step ?_
  unfold ev_step
  dsimp only
  rw [hat]
  dsimp only
  rw [if_neg (fun q => by rw [q] at hb; cases hb)]
  rw [hp]
  exact h
theorem fs_ishr {u v : Int32} (hat : ev_at code pc = some (q0, .ishr, len, a, b, w)) (hb : (b == 99) = false) (hp : pc + len = pc2) (h : fl_Q cy z0 call sp oc mc ms nl rt code Ret pc2 L (.int (u >>> (v &&& 31)) :: r) sh V n c sl) : fl_Q cy z0 call sp oc mc ms nl rt code Ret pc L (.int v :: .int u :: r) sh V n c sl := by
  refine ev_R.step ?_
  unfold ev_step
  dsimp only
  rw [hat]
  dsimp only
  rw [if_neg (fun q => by rw [q] at hb; cases hb)]
  rw [hp]
  exact h
theorem fs_idiv {u v : Int32} (hat : ev_at code pc = some (q0, .idiv, len, a, b, w)) (hb : (b == 99) = false) (hp : pc + len = pc2) (h0 : ¬ v = 0) (h : fl_Q cy z0 call sp oc mc ms nl rt code Ret pc2 L (.int (u / v) :: r) sh V n c sl) : fl_Q cy z0 call sp oc mc ms nl rt code Ret pc L (.int v :: .int u :: r) sh V n c sl := by
  refine ev_R.step ?_
  unfold ev_step
  dsimp only
  rw [hat]
  dsimp only
  rw [if_neg (fun q => by rw [q] at hb; cases hb)]
  rw [hp]
  exact ⟨h0, h⟩
theorem fs_irem {u v : Int32} (hat : ev_at code pc = some (q0, .irem, len, a, b, w)) (hb : (b == 99) = false) (hp : pc + len = pc2) (h0 : ¬ v = 0) (h : fl_Q cy z0 call sp oc mc ms nl rt code Ret pc2 L (.int (u - u / v * v) :: r) sh V n c sl) : fl_Q cy z0 call sp oc mc ms nl rt code Ret pc L (.int v :: .int u :: r) sh V n c sl := by
  refine ev_R.step ?_
  unfold ev_step
  dsimp only
  rw [hat]
  dsimp only
  rw [if_neg (fun q => by rw [q] at hb; cases hb)]
  rw [hp]
  exact ⟨h0, h⟩
theorem fs_i2b {u : Int32} (hat : ev_at code pc = some (q0, .i2b, len, a, b, w)) (hb : (b == 99) = false) (hp : pc + len = pc2) (h : fl_Q cy z0 call sp oc mc ms nl rt code Ret pc2 L (.int u.toInt8.toInt32 :: r) sh V n c sl) : fl_Q cy z0 call sp oc mc ms nl rt code Ret pc L (.int u :: r) sh V n c sl := by
  refine ev_R.step ?_
  unfold ev_step
  dsimp only
  rw [hat]
  dsimp only
  rw [if_neg (fun q => by rw [q] at hb; cases hb)]
  rw [hp]
  exact h
theorem fs_dup_i {u : Int32} (hat : ev_at code pc = some (q0, .dup, len, a, b, w)) (hb : (b == 99) = false) (hp : pc + len = pc2) (h : fl_Q cy z0 call sp oc mc ms nl rt code Ret pc2 L (.int u :: .int u :: r) sh V n c sl) : fl_Q cy z0 call sp oc mc ms nl rt code Ret pc L (.int u :: r) sh V n c sl := by
  refine ev_R.step ?_
  unfold ev_step
  dsimp only
  rw [hat]
  dsimp only
  rw [if_neg (fun q => by rw [q] at hb; cases hb)]
  rw [hp]
  exact h
theorem fs_dup_r {u : Nat} (hat : ev_at code pc = some (q0, .dup, len, a, b, w)) (hb : (b == 99) = false) (hp : pc + len = pc2) (h : fl_Q cy z0 call sp oc mc ms nl rt code Ret pc2 L (.ref u :: .ref u :: r) sh V n c sl) : fl_Q cy z0 call sp oc mc ms nl rt code Ret pc L (.ref u :: r) sh V n c sl := by
  refine ev_R.step ?_
  unfold ev_step
  dsimp only
  rw [hat]
  dsimp only
  rw [if_neg (fun q => by rw [q] at hb; cases hb)]
  rw [hp]
  exact h
theorem fs_dup2 {u : Int32} {v : Nat} (hat : ev_at code pc = some (q0, .dup2, len, a, b, w)) (hb : (b == 99) = false) (hp : pc + len = pc2) (h : fl_Q cy z0 call sp oc mc ms nl rt code Ret pc2 L (.int u :: .ref v :: .int u :: .ref v :: r) sh V n c sl) : fl_Q cy z0 call sp oc mc ms nl rt code Ret pc L (.int u :: .ref v :: r) sh V n c sl := by
  refine ev_R.step ?_
  unfold ev_step
  dsimp only
  rw [hat]
  dsimp only
  rw [if_neg (fun q => by rw [q] at hb; cases hb)]
  rw [hp]
  exact h
theorem fs_pop_i {u : Int32} (hat : ev_at code pc = some (q0, .pop, len, a, b, w)) (hb : (b == 99) = false) (hp : pc + len = pc2) (h : fl_Q cy z0 call sp oc mc ms nl rt code Ret pc2 L (r) sh V n c sl) : fl_Q cy z0 call sp oc mc ms nl rt code Ret pc L (.int u :: r) sh V n c sl := by
  refine ev_R.step ?_
  unfold ev_step
  dsimp only
  rw [hat]
  dsimp only
  rw [if_neg (fun q => by rw [q] at hb; cases hb)]
  rw [hp]
  exact h
theorem fs_pop_r {u : Nat} (hat : ev_at code pc = some (q0, .pop, len, a, b, w)) (hb : (b == 99) = false) (hp : pc + len = pc2) (h : fl_Q cy z0 call sp oc mc ms nl rt code Ret pc2 L (r) sh V n c sl) : fl_Q cy z0 call sp oc mc ms nl rt code Ret pc L (.ref u :: r) sh V n c sl := by
  refine ev_R.step ?_
  unfold ev_step
  dsimp only
  rw [hat]
  dsimp only
  rw [if_neg (fun q => by rw [q] at hb; cases hb)]
  rw [hp]
  exact h
theorem fs_goto {k : Int} (hat : ev_at code pc = some (q0, .goto k, len, a, b, w)) (hb : (b == 99) = false)  (h : fl_Q cy z0 call sp oc mc ms nl rt code Ret a L (st) sh V n c sl) : fl_Q cy z0 call sp oc mc ms nl rt code Ret pc L (st) sh V n c sl := by
  refine ev_R.step ?_
  unfold ev_step
  dsimp only
  rw [hat]
  dsimp only
  rw [if_neg (fun q => by rw [q] at hb; cases hb)]
  exact h
theorem fs_ifnull {k : Int} {u : Nat} (hat : ev_at code pc = some (q0, .ifnull k, len, a, b, w)) (hb : (b == 99) = false) (hp : pc + len = pc2) (h : fl_Q cy z0 call sp oc mc ms nl rt code Ret pc2 L (r) sh V n c sl) : fl_Q cy z0 call sp oc mc ms nl rt code Ret pc L (.ref u :: r) sh V n c sl := by
  refine ev_R.step ?_
  unfold ev_step
  dsimp only
  rw [hat]
  dsimp only
  rw [if_neg (fun q => by rw [q] at hb; cases hb)]
  rw [hp]
  exact ⟨fun q => (by cases q), fun _ => h⟩
theorem fs_ifnull0 {k : Int} (hat : ev_at code pc = some (q0, .ifnull k, len, a, b, w)) (hb : (b == 99) = false)  (h : fl_Q cy z0 call sp oc mc ms nl rt code Ret a L (r) sh V n c sl) : fl_Q cy z0 call sp oc mc ms nl rt code Ret pc L (.null :: r) sh V n c sl := by
  refine ev_R.step ?_
  unfold ev_step
  dsimp only
  rw [hat]
  dsimp only
  rw [if_neg (fun q => by rw [q] at hb; cases hb)]
  exact ⟨fun _ => h, fun q => absurd rfl q⟩
theorem fs_ifnonnull {k : Int} {u : Nat} (hat : ev_at code pc = some (q0, .ifnonnull k, len, a, b, w)) (hb : (b == 99) = false)  (h : fl_Q cy z0 call sp oc mc ms nl rt code Ret a L (r) sh V n c sl) : fl_Q cy z0 call sp oc mc ms nl rt code Ret pc L (.ref u :: r) sh V n c sl := by
  refine ev_R.step ?_
  unfold ev_step
  dsimp only
  rw [hat]
  dsimp only
  rw [if_neg (fun q => by rw [q] at hb; cases hb)]
  exact ⟨fun q => (by cases q), fun _ => h⟩
theorem fs_ifnonnull0 {k : Int} (hat : ev_at code pc = some (q0, .ifnonnull k, len, a, b, w)) (hb : (b == 99) = false) (hp : pc + len = pc2) (h : fl_Q cy z0 call sp oc mc ms nl rt code Ret pc2 L (r) sh V n c sl) : fl_Q cy z0 call sp oc mc ms nl rt code Ret pc L (.null :: r) sh V n c sl := by
  refine ev_R.step ?_
  unfold ev_step
  dsimp only
  rw [hat]
  dsimp only
  rw [if_neg (fun q => by rw [q] at hb; cases hb)]
  rw [hp]
  exact ⟨fun _ => h, fun q => absurd rfl q⟩
theorem fs_if_eq {k : Int} {u : Int32} (hat : ev_at code pc = some (q0, .ifCond .eq k, len, a, b, w)) (hb : (b == 99) = false) (hp : pc + len = pc2) (ht : u = 0 → fl_Q cy z0 call sp oc mc ms nl rt code Ret a L (r) sh V n c sl) (hf : ¬ u = 0 → fl_Q cy z0 call sp oc mc ms nl rt code Ret pc2 L (r) sh V n c sl) : fl_Q cy z0 call sp oc mc ms nl rt code Ret pc L (.int u :: r) sh V n c sl := by
  refine ev_R.step ?_
  unfold ev_step
  dsimp only
  rw [hat]
  dsimp only
  rw [if_neg (fun q => by rw [q] at hb; cases hb)]
  rw [hp]
  exact ⟨ht, hf⟩
theorem fs_if_ne {k : Int} {u : Int32} (hat : ev_at code pc = some (q0, .ifCond .ne k, len, a, b, w)) (hb : (b == 99) = false) (hp : pc + len = pc2) (ht : ¬ u = 0 → fl_Q cy z0 call sp oc mc ms nl rt code Ret a L (r) sh V n c sl) (hf : u = 0 → fl_Q cy z0 call sp oc mc ms nl rt code Ret pc2 L (r) sh V n c sl) : fl_Q cy z0 call sp oc mc ms nl rt code Ret pc L (.int u :: r) sh V n c sl := by
  refine ev_R.step ?_
  unfold ev_step
  dsimp only
  rw [hat]
  dsimp only
  rw [if_neg (fun q => by rw [q] at hb; cases hb)]
  rw [hp]
  exact ⟨hf, ht⟩
theorem fs_if_lt {k : Int} {u : Int32} (hat : ev_at code pc = some (q0, .ifCond .lt k, len, a, b, w)) (hb : (b == 99) = false) (hp : pc + len = pc2) (ht : u < 0 → fl_Q cy z0 call sp oc mc ms nl rt code Ret a L (r) sh V n c sl) (hf : ¬ u < 0 → fl_Q cy z0 call sp oc mc ms nl rt code Ret pc2 L (r) sh V n c sl) : fl_Q cy z0 call sp oc mc ms nl rt code Ret pc L (.int u :: r) sh V n c sl := by
  refine ev_R.step ?_
  unfold ev_step
  dsimp only
  rw [hat]
  dsimp only
  rw [if_neg (fun q => by rw [q] at hb; cases hb)]
  rw [hp]
  exact ⟨ht, hf⟩
theorem fs_if_ge {k : Int} {u : Int32} (hat : ev_at code pc = some (q0, .ifCond .ge k, len, a, b, w)) (hb : (b == 99) = false) (hp : pc + len = pc2) (ht : ¬ u < 0 → fl_Q cy z0 call sp oc mc ms nl rt code Ret a L (r) sh V n c sl) (hf : u < 0 → fl_Q cy z0 call sp oc mc ms nl rt code Ret pc2 L (r) sh V n c sl) : fl_Q cy z0 call sp oc mc ms nl rt code Ret pc L (.int u :: r) sh V n c sl := by
  refine ev_R.step ?_
  unfold ev_step
  dsimp only
  rw [hat]
  dsimp only
  rw [if_neg (fun q => by rw [q] at hb; cases hb)]
  rw [hp]
  exact ⟨hf, ht⟩
theorem fs_if_le {k : Int} {u : Int32} (hat : ev_at code pc = some (q0, .ifCond .le k, len, a, b, w)) (hb : (b == 99) = false) (hp : pc + len = pc2) (ht : u ≤ 0 → fl_Q cy z0 call sp oc mc ms nl rt code Ret a L (r) sh V n c sl) (hf : ¬ u ≤ 0 → fl_Q cy z0 call sp oc mc ms nl rt code Ret pc2 L (r) sh V n c sl) : fl_Q cy z0 call sp oc mc ms nl rt code Ret pc L (.int u :: r) sh V n c sl := by
  refine ev_R.step ?_
  unfold ev_step
  dsimp only
  rw [hat]
  dsimp only
  rw [if_neg (fun q => by rw [q] at hb; cases hb)]
  rw [hp]
  exact ⟨ht, hf⟩
theorem fs_if_gt {k : Int} {u : Int32} (hat : ev_at code pc = some (q0, .ifCond .gt k, len, a, b, w)) (hb : (b == 99) = false) (hp : pc + len = pc2) (ht : ¬ u ≤ 0 → fl_Q cy z0 call sp oc mc ms nl rt code Ret a L (r) sh V n c sl) (hf : u ≤ 0 → fl_Q cy z0 call sp oc mc ms nl rt code Ret pc2 L (r) sh V n c sl) : fl_Q cy z0 call sp oc mc ms nl rt code Ret pc L (.int u :: r) sh V n c sl := by
  refine ev_R.step ?_
  unfold ev_step
  dsimp only
  rw [hat]
  dsimp only
  rw [if_neg (fun q => by rw [q] at hb; cases hb)]
  rw [hp]
  exact ⟨hf, ht⟩
theorem fs_icmp_eq {k : Int} {u v : Int32} (hat : ev_at code pc = some (q0, .if_icmp .eq k, len, a, b, w)) (hb : (b == 99) = false) (hp : pc + len = pc2) (ht : u = v → fl_Q cy z0 call sp oc mc ms nl rt code Ret a L (r) sh V n c sl) (hf : ¬ u = v → fl_Q cy z0 call sp oc mc ms nl rt code Ret pc2 L (r) sh V n c sl) : fl_Q cy z0 call sp oc mc ms nl rt code Ret pc L (.int v :: .int u :: r) sh V n c sl := by
  refine ev_R.step ?_
  unfold ev_step
  dsimp only
  rw [hat]
  dsimp only
  rw [if_neg (fun q => by rw [q] at hb; cases hb)]
  rw [hp]
  exact ⟨ht, hf⟩
theorem fs_icmp_ne {k : Int} {u v : Int32} (hat : ev_at code pc = some (q0, .if_icmp .ne k, len, a, b, w)) (hb : (b == 99) = false) (hp : pc + len = pc2) (ht : ¬ u = v → fl_Q cy z0 call sp oc mc ms nl rt code Ret a L (r) sh V n c sl) (hf : u = v → fl_Q cy z0 call sp oc mc ms nl rt code Ret pc2 L (r) sh V n c sl) : fl_Q cy z0 call sp oc mc ms nl rt code Ret pc L (.int v :: .int u :: r) sh V n c sl := by
  refine ev_R.step ?_
  unfold ev_step
  dsimp only
  rw [hat]
  dsimp only
  rw [if_neg (fun q => by rw [q] at hb; cases hb)]
  rw [hp]
  exact ⟨hf, ht⟩
theorem fs_icmp_lt {k : Int} {u v : Int32} (hat : ev_at code pc = some (q0, .if_icmp .lt k, len, a, b, w)) (hb : (b == 99) = false) (hp : pc + len = pc2) (ht : u < v → fl_Q cy z0 call sp oc mc ms nl rt code Ret a L (r) sh V n c sl) (hf : ¬ u < v → fl_Q cy z0 call sp oc mc ms nl rt code Ret pc2 L (r) sh V n c sl) : fl_Q cy z0 call sp oc mc ms nl rt code Ret pc L (.int v :: .int u :: r) sh V n c sl := by
  refine ev_R.step ?_
  unfold ev_step
  dsimp only
  rw [hat]
  dsimp only
  rw [if_neg (fun q => by rw [q] at hb; cases hb)]
  rw [hp]
  exact ⟨ht, hf⟩
theorem fs_icmp_ge {k : Int} {u v : Int32} (hat : ev_at code pc = some (q0, .if_icmp .ge k, len, a, b, w)) (hb : (b == 99) = false) (hp : pc + len = pc2) (ht : ¬ u < v → fl_Q cy z0 call sp oc mc ms nl rt code Ret a L (r) sh V n c sl) (hf : u < v → fl_Q cy z0 call sp oc mc ms nl rt code Ret pc2 L (r) sh V n c sl) : fl_Q cy z0 call sp oc mc ms nl rt code Ret pc L (.int v :: .int u :: r) sh V n c sl := by
  refine ev_R.step ?_
  unfold ev_step
  dsimp only
  rw [hat]
  dsimp only
  rw [if_neg (fun q => by rw [q] at hb; cases hb)]
  rw [hp]
  exact ⟨hf, ht⟩
theorem fs_icmp_le {k : Int} {u v : Int32} (hat : ev_at code pc = some (q0, .if_icmp .le k, len, a, b, w)) (hb : (b == 99) = false) (hp : pc + len = pc2) (ht : u ≤ v → fl_Q cy z0 call sp oc mc ms nl rt code Ret a L (r) sh V n c sl) (hf : ¬ u ≤ v → fl_Q cy z0 call sp oc mc ms nl rt code Ret pc2 L (r) sh V n c sl) : fl_Q cy z0 call sp oc mc ms nl rt code Ret pc L (.int v :: .int u :: r) sh V n c sl := by
  refine ev_R.step ?_
  unfold ev_step
  dsimp only
  rw [hat]
  dsimp only
  rw [if_neg (fun q => by rw [q] at hb; cases hb)]
  rw [hp]
  exact ⟨ht, hf⟩
theorem fs_icmp_gt {k : Int} {u v : Int32} (hat : ev_at code pc = some (q0, .if_icmp .gt k, len, a, b, w)) (hb : (b == 99) = false) (hp : pc + len = pc2) (ht : ¬ u ≤ v → fl_Q cy z0 call sp oc mc ms nl rt code Ret a L (r) sh V n c sl) (hf : u ≤ v → fl_Q cy z0 call sp oc mc ms nl rt code Ret pc2 L (r) sh V n c sl) : fl_Q cy z0 call sp oc mc ms nl rt code Ret pc L (.int v :: .int u :: r) sh V n c sl := by
  refine ev_R.step ?_
  unfold ev_step
  dsimp only
  rw [hat]
  dsimp only
  rw [if_neg (fun q => by rw [q] at hb; cases hb)]
  rw [hp]
  exact ⟨hf, ht⟩
theorem fs_geti {k q : Nat} {slots : List (Option (Option Nat))} (hat : ev_at code pc = some (q0, .getfield k, len, a, b, w)) (hb : (b == 99) = false) (hp : pc + len = pc2) (hs : sh q = some (.inr (a, slots))) (hj : slots[b]? = some none) (h : fl_Q cy z0 call sp oc mc ms nl rt code Ret pc2 L (.int (V q b) :: r) sh V n c sl) : fl_Q cy z0 call sp oc mc ms nl rt code Ret pc L (.ref (z0 + q) :: r) sh V n c sl := by
  refine ev_R.step ?_
  unfold ev_step
  dsimp only
  rw [hat]
  dsimp only
  rw [if_neg (fun q => by rw [q] at hb; cases hb)]
  rw [hp]
  show ev_ob (fl_f cy z0 sh V (z0 + q)) a _
  rw [fl_at hs]
  refine ⟨rfl, ?_⟩
  unfold ev_nth
  dsimp only
  rw [fl_vals_get, hj]
  simp only [Option.map_some, Nat.zero_add]
  exact h
theorem fs_getr {k q q2 : Nat} {slots : List (Option (Option Nat))} (hat : ev_at code pc = some (q0, .getfield k, len, a, b, w)) (hb : (b == 99) = false) (hp : pc + len = pc2) (hs : sh q = some (.inr (a, slots))) (hj : slots[b]? = some (some (some q2))) (h : fl_Q cy z0 call sp oc mc ms nl rt code Ret pc2 L (.ref (z0 + q2) :: r) sh V n c sl) : fl_Q cy z0 call sp oc mc ms nl rt code Ret pc L (.ref (z0 + q) :: r) sh V n c sl := by
  refine ev_R.step ?_
  unfold ev_step
  dsimp only
  rw [hat]
  dsimp only
  rw [if_neg (fun q => by rw [q] at hb; cases hb)]
  rw [hp]
  show ev_ob (fl_f cy z0 sh V (z0 + q)) a _
  rw [fl_at hs]
  refine ⟨rfl, ?_⟩
  unfold ev_nth
  dsimp only
  rw [fl_vals_get, hj]
  exact h
theorem fs_puti {k q : Nat} {v : Int32} {slots : List (Option (Option Nat))} (hat : ev_at code pc = some (q0, .putfield k, len, a, b, w)) (hb : (b == 99) = false) (hp : pc + len = pc2) (hs : sh q = some (.inr (a, slots))) (hj : slots[b]? = some none) (hft : ev_fit (ev_ty a b) (.int v)) (h : fl_Q cy z0 call sp oc mc ms nl rt code Ret pc2 L (r) sh (up2 V q b v) n c sl) : fl_Q cy z0 call sp oc mc ms nl rt code Ret pc L (.int v :: .ref (z0 + q) :: r) sh V n c sl := by
  refine ev_R.step ?_
  unfold ev_step
  dsimp only
  rw [hat]
  dsimp only
  rw [if_neg (fun q => by rw [q] at hb; cases hb)]
  rw [hp]
  show ev_ob (fl_f cy z0 sh V (z0 + q)) a _
  rw [fl_at hs]
  refine ⟨rfl, by rw [fl_vals_len]; exact (List.getElem?_eq_some_iff.mp hj).1, hft, ?_⟩
  rw [fl_put_i hs hj]
  exact h
theorem fs_putr {k q v : Nat} {slots : List (Option (Option Nat))} (hat : ev_at code pc = some (q0, .putfield k, len, a, b, w)) (hb : (b == 99) = false) (hp : pc + len = pc2) (hs : sh q = some (.inr (a, slots))) (hj : b < slots.length) (hft : ev_fit (ev_ty a b) (.ref (z0 + v))) (h : fl_Q cy z0 call sp oc mc ms nl rt code Ret pc2 L (r) (va_up sh q (some (.inr (a, slots.set b (some (some v)))))) V n c sl) : fl_Q cy z0 call sp oc mc ms nl rt code Ret pc L (.ref (z0 + v) :: .ref (z0 + q) :: r) sh V n c sl := by
  refine ev_R.step ?_
  unfold ev_step
  dsimp only
  rw [hat]
  dsimp only
  rw [if_neg (fun q => by rw [q] at hb; cases hb)]
  rw [hp]
  show ev_ob (fl_f cy z0 sh V (z0 + q)) a _
  rw [fl_at hs]
  refine ⟨rfl, by rw [fl_vals_len]; exact hj, hft, ?_⟩
  have e := fl_put_r (cy := cy) (z0 := z0) (k := q) (ci := a) (sh := sh) (V := V) (q := some v) hj
  have e2 : fl_r z0 (some v) = .ref (z0 + v) := rfl
  rw [e2] at e
  rw [e]
  exact h
theorem fs_alen {q t z : Nat} {g : Option ((Nat → Option Nat) ⊕ (Nat → Int64))} (hat : ev_at code pc = some (q0, .arraylength, len, a, b, w)) (hb : (b == 99) = false) (hp : pc + len = pc2) (hs : sh q = some (.inl (t, z, g))) (h : fl_Q cy z0 call sp oc mc ms nl rt code Ret pc2 L (.int (Int32.ofNat z) :: r) sh V n c sl) : fl_Q cy z0 call sp oc mc ms nl rt code Ret pc L (.ref (z0 + q) :: r) sh V n c sl := by
  refine ev_R.step ?_
  unfold ev_step
  dsimp only
  rw [hat]
  dsimp only
  rw [if_neg (fun q => by rw [q] at hb; cases hb)]
  rw [hp]
  show ev_len (fl_f cy z0 sh V (z0 + q)) _
  rw [fl_at hs]
  rcases g with _ | g | g <;> exact h
theorem fs_iald {q z : Nat} {u : Int32} (hat : ev_at code pc = some (q0, .iaload, len, a, b, w)) (hb : (b == 99) = false) (hp : pc + len = pc2) (hs : sh q = some (.inl (1, z, none))) (hi : vp_in u z) (h : fl_Q cy z0 call sp oc mc ms nl rt code Ret pc2 L (.int (V q u.toNatClampNeg) :: r) sh V n c sl) : fl_Q cy z0 call sp oc mc ms nl rt code Ret pc L (.int u :: .ref (z0 + q) :: r) sh V n c sl := by
  refine ev_R.step ?_
  unfold ev_step
  dsimp only
  rw [hat]
  dsimp only
  rw [if_neg (fun q => by rw [q] at hb; cases hb)]
  rw [hp]
  show ev_ai (fl_f cy z0 sh V (z0 + q)) (cy 1) _
  rw [fl_at hs]
  exact ⟨rfl, hi, h⟩
theorem fs_bald {q z t : Nat} {u : Int32} (hat : ev_at code pc = some (q0, .baload, len, a, b, w)) (hb : (b == 99) = false) (hp : pc + len = pc2) (ht : ev_bt oc = t) (hs : sh q = some (.inl (t, z, none))) (hi : vp_in u z) (h : fl_Q cy z0 call sp oc mc ms nl rt code Ret pc2 L (.int (V q u.toNatClampNeg) :: r) sh V n c sl) : fl_Q cy z0 call sp oc mc ms nl rt code Ret pc L (.int u :: .ref (z0 + q) :: r) sh V n c sl := by
  refine ev_R.step ?_
  unfold ev_step
  dsimp only
  rw [hat]
  dsimp only
  rw [if_neg (fun q => by rw [q] at hb; cases hb)]
  rw [hp]
  subst ht
  show ev_ai (fl_f cy z0 sh V (z0 + q)) (cy (ev_bt oc)) _
  rw [fl_at hs]
  exact ⟨rfl, hi, h⟩
theorem fs_aald {q z t q2 : Nat} {g : Nat → Option Nat} {u : Int32} (hat : ev_at code pc = some (q0, .aaload, len, a, b, w)) (hb : (b == 99) = false) (hp : pc + len = pc2) (hs : sh q = some (.inl (t, z, some (.inl g)))) (hi : vp_in u z) (hg : g u.toNatClampNeg = some q2) (h : fl_Q cy z0 call sp oc mc ms nl rt code Ret pc2 L (.ref (z0 + q2) :: r) sh V n c sl) : fl_Q cy z0 call sp oc mc ms nl rt code Ret pc L (.int u :: .ref (z0 + q) :: r) sh V n c sl := by
  refine ev_R.step ?_
  unfold ev_step
  dsimp only
  rw [hat]
  dsimp only
  rw [if_neg (fun q => by rw [q] at hb; cases hb)]
  rw [hp]
  show ev_aq (fl_f cy z0 sh V (z0 + q)) _
  rw [fl_at hs]
  refine ⟨hi, ?_⟩
  rw [fl_r_rf, hg]
  exact h
theorem fs_iast {q z : Nat} {u v : Int32} (hat : ev_at code pc = some (q0, .iastore, len, a, b, w)) (hb : (b == 99) = false) (hp : pc + len = pc2) (hs : sh q = some (.inl (1, z, none))) (hi : vp_in u z) (h : fl_Q cy z0 call sp oc mc ms nl rt code Ret pc2 L (r) sh (up2 V q u.toNatClampNeg v) n c sl) : fl_Q cy z0 call sp oc mc ms nl rt code Ret pc L (.int v :: .int u :: .ref (z0 + q) :: r) sh V n c sl := by
  refine ev_R.step ?_
  unfold ev_step
  dsimp only
  rw [hat]
  dsimp only
  rw [if_neg (fun q => by rw [q] at hb; cases hb)]
  rw [hp]
  show ev_ai (fl_f cy z0 sh V (z0 + q)) (cy 1) _
  rw [fl_at hs]
  refine ⟨rfl, hi, ?_⟩
  rw [fl_put_a hs]
  exact h
theorem fs_bast {q z t : Nat} {u v : Int32} (hat : ev_at code pc = some (q0, .bastore, len, a, b, w)) (hb : (b == 99) = false) (hp : pc + len = pc2) (ht : ev_bt oc = t) (hs : sh q = some (.inl (t, z, none))) (hi : vp_in u z) (h : fl_Q cy z0 call sp oc mc ms nl rt code Ret pc2 L (r) sh (up2 V q u.toNatClampNeg (ev_bn oc v)) n c sl) : fl_Q cy z0 call sp oc mc ms nl rt code Ret pc L (.int v :: .int u :: .ref (z0 + q) :: r) sh V n c sl := by
  refine ev_R.step ?_
  unfold ev_step
  dsimp only
  rw [hat]
  dsimp only
  rw [if_neg (fun q => by rw [q] at hb; cases hb)]
  rw [hp]
  subst ht
  show ev_ai (fl_f cy z0 sh V (z0 + q)) (cy (ev_bt oc)) _
  rw [fl_at hs]
  refine ⟨rfl, hi, ?_⟩
  rw [fl_put_a hs]
  exact h
theorem fs_aast {q z v ci : Nat} {g : Nat → Option Nat} {slots : List (Option (Option Nat))} {u : Int32} (hat : ev_at code pc = some (q0, .aastore, len, a, b, w)) (hb : (b == 99) = false) (hp : pc + len = pc2) (hs : sh q = some (.inl (a, z, some (.inl g)))) (hv : sh v = some (.inr (b, slots))) (hi : vp_in u z) (h : fl_Q cy z0 call sp oc mc ms nl rt code Ret pc2 L (r) (va_up sh q (some (.inl (a, z, some (.inl (va_up g u.toNatClampNeg (some v))))))) V n c sl) : fl_Q cy z0 call sp oc mc ms nl rt code Ret pc L (.ref (z0 + v) :: .int u :: .ref (z0 + q) :: r) sh V n c sl := by
  refine ev_R.step ?_
  unfold ev_step
  dsimp only
  rw [hat]
  dsimp only
  rw [if_neg (fun q => by rw [q] at hb; cases hb)]
  rw [hp]
  show ev_aq (fl_f cy z0 sh V (z0 + q)) _
  rw [fl_at hs]
  refine ⟨rfl, hi, ?_, ?_⟩
  · show ev_ob (fl_f cy z0 sh V (z0 + v)) b _
    rw [fl_at hv]
    exact ⟨rfl, trivial⟩
  · have e := fl_put_q (cy := cy) (z0 := z0) (k := q) (t := a) (len := z) (sh := sh) (V := V) (g := g) (j := u.toNatClampNeg) (q := some v)
    rw [show (some v).map (fun k => z0 + k) = some (z0 + v) from rfl] at e
    rw [e]
    exact h
theorem fs_new {k : Nat} {slots : List (Option (Option Nat))} (hat : ev_at code pc = some (q0, .new k, len, a, b, w)) (hb : (b == 99) = false) (hp : pc + len = pc2) (hc : c + 1 ≤ mc) (hl : sl + ev_nf a ≤ ms) (hn : fl_vals z0 (fun _ => 0) 0 slots = ev_new a) (h : fl_Q cy z0 call sp oc mc ms nl rt code Ret pc2 L (.ref (z0 + n) :: st) (va_up sh n (some (.inr (a, slots)))) (va_up V n (fun _ => 0)) (n + 1) (c + 1) (sl + ev_nf a)) : fl_Q cy z0 call sp oc mc ms nl rt code Ret pc L (st) sh V n c sl := by
  refine ev_R.step ?_
  unfold ev_step
  dsimp only
  rw [hat]
  dsimp only
  rw [if_neg (fun q => by rw [q] at hb; cases hb)]
  rw [hp]
  refine ⟨hc, hl, ?_⟩
  rw [fl_new (e := .inr (a, slots)) (congrArg (fun y => (Sum.inr (a, y) : va_E)) hn)]
  exact h
theorem fs_newi {ty : ArrayType} {u : Int32} (hat : ev_at code pc = some (q0, .newarray ty, len, a, b, w)) (hb : (b == 99) = false) (hp : pc + len = pc2) (ha : a < 3) (h0 : ¬ u < 0) (hc : c + 1 ≤ mc) (hl : sl + u.toNatClampNeg ≤ ms) (hy : u.toNatClampNeg * 8 ≤ 536870912) (hty : ty ≠ .long) (h : fl_Q cy z0 call sp oc mc ms nl rt code Ret pc2 L (.ref (z0 + n) :: r) (va_up sh n (some (.inl (a, u.toNatClampNeg, none)))) (va_up V n (fun _ => 0)) (n + 1) (c + 1) (sl + u.toNatClampNeg)) : fl_Q cy z0 call sp oc mc ms nl rt code Ret pc L (.int u :: r) sh V n c sl := by
  refine ev_R.step ?_
  unfold ev_step
  dsimp only
  rw [hat]
  dsimp only
  rw [if_neg (fun q => by rw [q] at hb; cases hb)]
  rw [hp]
  refine ⟨by omega, h0, hc, hl, hy, ?_⟩
  have e := fl_new (cy := cy) (z0 := z0) (k := n) (sh := sh) (V := V) (e := .inl (a, u.toNatClampNeg, none)) rfl
  cases ty <;> first | exact absurd rfl hty | (dsimp only [fl_e] at e ⊢; rw [e]; exact h)
theorem fs_newq {k : Nat} {u : Int32} (hat : ev_at code pc = some (q0, .anewarray k, len, a, b, w)) (hb : (b == 99) = false) (hp : pc + len = pc2) (h0 : ¬ u < 0) (hc : c + 1 ≤ mc) (hl : sl + u.toNatClampNeg ≤ ms) (hy : u.toNatClampNeg * 4 ≤ 536870912) (h : fl_Q cy z0 call sp oc mc ms nl rt code Ret pc2 L (.ref (z0 + n) :: r) (va_up sh n (some (.inl (a, u.toNatClampNeg, some (.inl fun _ => none))))) (va_up V n (fun _ => 0)) (n + 1) (c + 1) (sl + u.toNatClampNeg)) : fl_Q cy z0 call sp oc mc ms nl rt code Ret pc L (.int u :: r) sh V n c sl := by
  refine ev_R.step ?_
  unfold ev_step
  dsimp only
  rw [hat]
  dsimp only
  rw [if_neg (fun q => by rw [q] at hb; cases hb)]
  rw [hp]
  refine ⟨h0, hc, hl, hy, ?_⟩
  have e := fl_new (cy := cy) (z0 := z0) (k := n) (sh := sh) (V := V) (e := .inl (a, u.toNatClampNeg, some (.inl fun _ => none))) rfl
  dsimp only [fl_e, Option.map_none] at e ⊢
  rw [e]
  exact h
theorem fs_objinit {k u : Nat} (hat : ev_at code pc = some (q0, .invokespecial k, len, a, b, w)) (hb : (b == 99) = false) (hp : pc + len = pc2) (h5 : b = 5) (hm : (r.map fun v => v.category).sum ≤ 8) (h : fl_Q cy z0 call sp oc mc ms nl rt code Ret pc2 L (r) sh V n c sl) : fl_Q cy z0 call sp oc mc ms nl rt code Ret pc L (.ref u :: r) sh V n c sl := by
  refine ev_R.step ?_
  unfold ev_step
  dsimp only
  rw [hat]
  dsimp only
  rw [if_neg (fun q => by rw [q] at hb; cases hb)]
  rw [hp, if_pos h5]
  exact ⟨hm, h⟩
theorem fs_max {k : Nat} {u v : Int32} (hat : ev_at code pc = some (q0, .invokestatic k, len, a, b, w)) (hb : (b == 99) = false) (hp : pc + len = pc2) (h6 : b = 6) (hm : (r.map fun v => v.category).sum ≤ 8) (h : fl_Q cy z0 call sp oc mc ms nl rt code Ret pc2 L (.int (if u < v then v else u) :: r) sh V n c sl) : fl_Q cy z0 call sp oc mc ms nl rt code Ret pc L (.int v :: .int u :: r) sh V n c sl := by
  refine ev_R.step ?_
  unfold ev_step
  dsimp only
  rw [hat]
  dsimp only
  rw [if_neg (fun q => by rw [q] at hb; cases hb)]
  rw [hp, if_pos h6]
  exact ⟨hm, h⟩
theorem fs_min {k : Nat} {u v : Int32} (hat : ev_at code pc = some (q0, .invokestatic k, len, a, b, w)) (hb : (b == 99) = false) (hp : pc + len = pc2) (h7 : b = 7) (hm : (r.map fun v => v.category).sum ≤ 8) (h : fl_Q cy z0 call sp oc mc ms nl rt code Ret pc2 L (.int (if v < u then v else u) :: r) sh V n c sl) : fl_Q cy z0 call sp oc mc ms nl rt code Ret pc L (.int v :: .int u :: r) sh V n c sl := by
  refine ev_R.step ?_
  unfold ev_step
  dsimp only
  rw [hat]
  dsimp only
  rw [if_neg (fun q => by rw [q] at hb; cases hb)]
  rw [hp, if_neg (by rw [h7]; decide), if_pos h7]
  exact ⟨hm, h⟩
end FS
section FSR
variable {cy : Nat → ClassId} {z0 : Nat} {call : Nat → List Value → ev_H → Nat → ev_P → Prop} {sp : ev_F → (ev_F → Prop) → Prop} {oc mc ms nl : Nat} {code : List ev_I} {Ret : ev_P} {ty : FieldType}
variable {pc len a b q0 : Nat} {w : Int32} {L : List (Nat × Value)} {sh : fl_S} {V : fl_V} {n c sl : Nat}
theorem fs_iret {v : Int32} (hat : ev_at code pc = some (q0, .ireturn, len, a, b, w)) (hb : (b == 99) = false) (hft : ev_fit ty (.int v)) (h : Ret (some (.int v)) (fl_f cy z0 sh V) (z0 + n)) : fl_Q cy z0 call sp oc mc ms nl (some ty) code Ret pc L [.int v] sh V n c sl := by
  refine ev_R.step ?_
  unfold ev_step
  dsimp only
  rw [hat]
  dsimp only
  rw [if_neg (fun q => by rw [q] at hb; cases hb)]
  exact ⟨hft, rfl, h⟩
theorem fs_aret {q : Option Nat} (hat : ev_at code pc = some (q0, .areturn, len, a, b, w)) (hb : (b == 99) = false) (hft : ev_fit ty (fl_r z0 q)) (h : Ret (some (fl_r z0 q)) (fl_f cy z0 sh V) (z0 + n)) : fl_Q cy z0 call sp oc mc ms nl (some ty) code Ret pc L [fl_r z0 q] sh V n c sl := by
  refine ev_R.step ?_
  unfold ev_step
  dsimp only
  rw [hat]
  dsimp only
  rw [if_neg (fun q => by rw [q] at hb; cases hb)]
  cases q <;> exact ⟨hft, rfl, h⟩
theorem fs_ret (hat : ev_at code pc = some (q0, .return_, len, a, b, w)) (hb : (b == 99) = false) (h : Ret none (fl_f cy z0 sh V) (z0 + n)) : fl_Q cy z0 call sp oc mc ms nl none code Ret pc L [] sh V n c sl := by
  refine ev_R.step ?_
  unfold ev_step
  dsimp only
  rw [hat]
  dsimp only
  rw [if_neg (fun q => by rw [q] at hb; cases hb)]
  exact ⟨rfl, h⟩
end FSR
/-- a method over the flat memory: whatever is owed behind it follows from P -/
def fl_M (cy : Nat → ClassId) (z0 : Nat) (ext : Nat → Nat → List Value → ev_H → Nat → ev_P → Prop) (d m : Nat) (as : List Value) (sh : fl_S) (V : fl_V) (n : Nat) (P : Option Value → fl_S → fl_V → Nat → Prop) : Prop :=
  ∀ Post : ev_P, (∀ v sh' V' n', P v sh' V' n' → Post v (fl_f cy z0 sh' V') (z0 + n')) → ev_M cy ext d m as (fl_f cy z0 sh V) (z0 + n) Post
section FSC
variable {cy : Nat → ClassId} {z0 : Nat} {ext : Nat → Nat → List Value → ev_H → Nat → ev_P → Prop} {sp : ev_F → (ev_F → Prop) → Prop} {oc mc ms nl d : Nat} {rt : Option FieldType} {code : List ev_I} {Ret : ev_P}
variable {pc pc2 len a b q0 : Nat} {w : Int32} {L : List (Nat × Value)} {st r as : List Value} {sh : fl_S} {V : fl_V} {n c sl : Nat} {P : Option Value → fl_S → fl_V → Nat → Prop} {md : ev_Md} {cde : List ev_I}
theorem fs_callI {m way na : Nat} {Y : ev_F → Prop} (hm : ev_ms[m]? = some (md, cde)) (hna : (if way = 0 then md.2.2.2.2.2.1 else md.2.2.2.2.2.1 + 1) = na) (hst : ev_pop na st [] (fun as' r' => as' = as ∧ r' = r)) (hsum : (r.map fun v => v.category).sum ≤ 8) (hc : c + md.2.2.2.2.2.2.2.1 ≤ mc) (hl : sl + md.2.2.2.2.2.2.2.2 ≤ ms) (hrc : ev_rcv way (fl_f cy z0 sh V) md.2.2.2.2.1 as) (hM : fl_M cy z0 ext d m as sh V n P)
    (h : ∀ v sh' V' n', P v sh' V' n' → Y (pc + 3, L, v.toList ++ r, fl_f cy z0 sh' V', z0 + n', c + md.2.2.2.2.2.2.2.1, sl + md.2.2.2.2.2.2.2.2)) : ev_inv (ev_M cy ext d) mc ms Y (pc, L, st, fl_f cy z0 sh V, z0 + n, c, sl) m way := by
  unfold ev_inv
  rw [hm]
  obtain ⟨y, bs, nl', rt', oc', na', kd', dc, ds⟩ := md
  dsimp only at *
  rw [hna]
  have key : ∀ {k : Nat} {s2 acc : List Value} {X : List Value → List Value → Prop}, ev_pop k s2 acc (fun as' r' => as' = as ∧ r' = r) → X as r → ev_pop k s2 acc X := by
    intro k
    induction k with
    | zero => intro s2 acc X h1 h2; obtain ⟨rfl, rfl⟩ := h1; exact h2
    | succ k ih =>
      intro s2 acc X h1 h2
      cases s2 with
      | nil => exact h1.elim
      | cons v s2 => exact ih h1 h2
  exact key hst ⟨hsum, hc, hl, hrc, hM _ h⟩
theorem fs_callv {k : Nat} (hat : ev_at code pc = some (q0, .invokevirtual k, len, a, b, w)) (hb : (b == 99) = false) (hp : pc + 3 = pc2) (hm : ev_ms[a]? = some (md, cde)) (hst : ev_pop (md.2.2.2.2.2.1 + 1) st [] (fun as' r' => as' = as ∧ r' = r)) (hsum : (r.map fun v => v.category).sum ≤ 8) (hc : c + md.2.2.2.2.2.2.2.1 ≤ mc) (hl : sl + md.2.2.2.2.2.2.2.2 ≤ ms) (hrc : ev_rcv 1 (fl_f cy z0 sh V) md.2.2.2.2.1 as) (hM : fl_M cy z0 ext d a as sh V n P)
    (h : ∀ v sh' V' n', P v sh' V' n' → fl_Q cy z0 (ev_M cy ext d) sp oc mc ms nl rt code Ret pc2 L (v.toList ++ r) sh' V' n' (c + md.2.2.2.2.2.2.2.1) (sl + md.2.2.2.2.2.2.2.2)) : fl_Q cy z0 (ev_M cy ext d) sp oc mc ms nl rt code Ret pc L st sh V n c sl := by
  subst hp
  refine ev_R.step ?_
  unfold ev_step
  dsimp only
  rw [hat]
  dsimp only
  rw [if_neg (fun q => by rw [q] at hb; cases hb)]
  exact fs_callI (way := 1) hm rfl hst hsum hc hl hrc hM h
theorem fs_calls {k : Nat} (hat : ev_at code pc = some (q0, .invokestatic k, len, a, b, w)) (hb : (b == 99) = false) (hb6 : (b == 6) = false) (hb7 : (b == 7) = false) (hp : pc + 3 = pc2) (hm : ev_ms[a]? = some (md, cde)) (hst : ev_pop md.2.2.2.2.2.1 st [] (fun as' r' => as' = as ∧ r' = r)) (hsum : (r.map fun v => v.category).sum ≤ 8) (hc : c + md.2.2.2.2.2.2.2.1 ≤ mc) (hl : sl + md.2.2.2.2.2.2.2.2 ≤ ms) (hM : fl_M cy z0 ext d a as sh V n P)
    (h : ∀ v sh' V' n', P v sh' V' n' → fl_Q cy z0 (ev_M cy ext d) sp oc mc ms nl rt code Ret pc2 L (v.toList ++ r) sh' V' n' (c + md.2.2.2.2.2.2.2.1) (sl + md.2.2.2.2.2.2.2.2)) : fl_Q cy z0 (ev_M cy ext d) sp oc mc ms nl rt code Ret pc L st sh V n c sl := by
  subst hp
  refine ev_R.step ?_
  unfold ev_step
  dsimp only
  rw [hat]
  dsimp only
  rw [if_neg (fun q => by rw [q] at hb; cases hb), if_neg (fun q => by rw [q] at hb6; cases hb6), if_neg (fun q => by rw [q] at hb7; cases hb7)]
  exact fs_callI (way := 0) hm rfl hst hsum hc hl trivial hM h
theorem fs_callc {k : Nat} (hat : ev_at code pc = some (q0, .invokespecial k, len, a, b, w)) (hb : (b == 99) = false) (hb5 : (b == 5) = false) (hp : pc + 3 = pc2) (hm : ev_ms[a]? = some (md, cde)) (hst : ev_pop (md.2.2.2.2.2.1 + 1) st [] (fun as' r' => as' = as ∧ r' = r)) (hsum : (r.map fun v => v.category).sum ≤ 8) (hc : c + md.2.2.2.2.2.2.2.1 ≤ mc) (hl : sl + md.2.2.2.2.2.2.2.2 ≤ ms) (hrc : ev_rcv 2 (fl_f cy z0 sh V) md.2.2.2.2.1 as) (hM : fl_M cy z0 ext d a as sh V n P)
    (h : ∀ v sh' V' n', P v sh' V' n' → fl_Q cy z0 (ev_M cy ext d) sp oc mc ms nl rt code Ret pc2 L (v.toList ++ r) sh' V' n' (c + md.2.2.2.2.2.2.2.1) (sl + md.2.2.2.2.2.2.2.2)) : fl_Q cy z0 (ev_M cy ext d) sp oc mc ms nl rt code Ret pc L st sh V n c sl := by
  subst hp
  refine ev_R.step ?_
  unfold ev_step
  dsimp only
  rw [hat]
  dsimp only
  rw [if_neg (fun q => by rw [q] at hb; cases hb), if_neg (fun q => by rw [q] at hb5; cases hb5)]
  exact fs_callI (way := 2) hm rfl hst hsum hc hl hrc hM h
/-- the receiver is an object of its class -/
theorem fs_rcv {q ci : Nat} {As : List Value} {slots : List (Option (Option Nat))} (hco : ev_co oc = ci) (hs : sh q = some (.inr (ci, slots))) : ev_rcv 1 (fl_f cy z0 sh V) oc (.ref (z0 + q) :: As) := by
  subst hco
  show ev_ob (fl_f cy z0 sh V (z0 + q)) _ _
  rw [fl_at hs]
  exact ⟨rfl, trivial⟩
/-- a method's own body -/
theorem fs_body {m : Nat} {y : MethodName} {bs : ByteArray} {nl oc na kd mc ms : Nat} {rt : Option FieldType} {code : List ev_I} (hm : ev_ms[m]? = some ((y, bs, nl, rt, oc, na, kd, mc, ms), code)) (hcat : (as.all (fun v => v.category == 1) && decide (as.length ≤ nl)) = true) (h : ∀ Ret : ev_P, (∀ v sh' V' n', P v sh' V' n' → Ret v (fl_f cy z0 sh' V') (z0 + n')) → fl_R cy z0 (ev_M cy ext d) oc mc ms nl rt code Ret 0 (lv_args 0 as) [] sh V n 0 0) : fl_M cy z0 ext (d + 1) m as sh V n P := by
  intro Post hP
  refine Or.inr ?_
  rw [hm]
  exact ⟨hcat, h Post hP⟩
theorem fl_M.mono {m : Nat} {P' : Option Value → fl_S → fl_V → Nat → Prop} (h : fl_M cy z0 ext d m as sh V n P) (hp : ∀ v sh' V' n', P v sh' V' n' → P' v sh' V' n') : fl_M cy z0 ext d m as sh V n P' := fun Post hPost => h Post (fun v sh' V' n' q => hPost v sh' V' n' (hp v sh' V' n' q))
end FSC
