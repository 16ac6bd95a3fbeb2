/-! rows over the hook of the list -/
section FA
variable {cy : Nat → ClassId} {z0 zF ax mi : Nat} {call : Nat → List Value → ev_H → Nat → ev_P → Prop} {sp : ev_F → (ev_F → Prop) → Prop} {oc mc ms nl : Nat} {rt : Option FieldType} {code : List ev_I} {Ret : ev_P}
variable {pc pc2 len a b q0 : Nat} {w : Int32} {L : List (Nat × Value)} {st r as : List Value} {sh : fl_S} {V : fl_V} {n c sl : Nat} {P : Option Value → fl_S → fl_V → Nat → Prop} {md : ev_Md} {cde : List ev_I}
def fc_M (call : Nat → List Value → ev_H → Nat → ev_P → Prop) (cy : Nat → ClassId) (z0 m : Nat) (as : List Value) (sh : fl_S) (V : fl_V) (n : Nat) (P : Option Value → fl_S → fl_V → Nat → Prop) : Prop := ∀ Post : ev_P, (∀ v sh' V' n', P v sh' V' n' → Post v (fl_f cy z0 sh' V') (z0 + n')) → call m as (fl_f cy z0 sh V) (z0 + n) Post
theorem fc_callI {m way na : Nat} {Y : ev_F → Prop} (hm : ev_ms[m]? = some (md, cde)) (hna : (if way = 0 then md.2.2.2.2.2.1 else md.2.2.2.2.2.1 + 1) = na) (hst : ev_pop na st [] (fun as' r' => as' = as ∧ r' = r)) (hsum : (r.map fun v => v.category).sum ≤ 8) (hc : c + md.2.2.2.2.2.2.2.1 ≤ mc) (hl : sl + md.2.2.2.2.2.2.2.2 ≤ ms) (hrc : ev_rcv way (fl_f cy z0 sh V) md.2.2.2.2.1 as) (hM : fc_M call cy z0 m as sh V n P)
    (h : ∀ v sh' V' n', P v sh' V' n' → Y (pc + 3, L, v.toList ++ r, fl_f cy z0 sh' V', z0 + n', c + md.2.2.2.2.2.2.2.1, sl + md.2.2.2.2.2.2.2.2)) : ev_inv call mc ms Y (pc, L, st, fl_f cy z0 sh V, z0 + n, c, sl) m way := by
  unfold ev_inv
  rw [hm]
  obtain ⟨y, bs, nl', rt', oc', na', kd', dc, ds⟩ := md
  dsimp only at *
  rw [hna]
  have key : ∀ {k : Nat} {s2 acc : List Value} {X : List Value → List Value → Prop}, ev_pop k s2 acc (fun as' r' => as' = as ∧ r' = r) → X as r → ev_pop k s2 acc X := by
    intro k
    induction k with
    | zero => intro s2 acc X h1 h2; obtain ⟨rfl, rfl⟩ := h1; exact h2
    | succ k ih =>
      intro s2 acc X h1 h2
      cases s2 with
      | nil => exact h1.elim
      | cons v s2 => exact ih h1 h2
  exact key hst ⟨hsum, hc, hl, hrc, hM _ h⟩
theorem fc_callv {k : Nat} (hat : ev_at code pc = some (q0, .invokevirtual k, len, a, b, w)) (hb : (b == 99) = false) (hp : pc + 3 = pc2) (hm : ev_ms[a]? = some (md, cde)) (hst : ev_pop (md.2.2.2.2.2.1 + 1) st [] (fun as' r' => as' = as ∧ r' = r)) (hsum : (r.map fun v => v.category).sum ≤ 8) (hc : c + md.2.2.2.2.2.2.2.1 ≤ mc) (hl : sl + md.2.2.2.2.2.2.2.2 ≤ ms) (hrc : ev_rcv 1 (fl_f cy z0 sh V) md.2.2.2.2.1 as) (hM : fc_M call cy z0 a as sh V n P)
    (h : ∀ v sh' V' n', P v sh' V' n' → fl_Q cy z0 call sp oc mc ms nl rt code Ret pc2 L (v.toList ++ r) sh' V' n' (c + md.2.2.2.2.2.2.2.1) (sl + md.2.2.2.2.2.2.2.2)) : fl_Q cy z0 call sp oc mc ms nl rt code Ret pc L st sh V n c sl := by
  subst hp
  refine ev_R.step ?_
  unfold ev_step
  dsimp only
  rw [hat]
  dsimp only
  rw [if_neg (fun q => by rw [q] at hb; cases hb)]
  exact fc_callI (way := 1) hm rfl hst hsum hc hl hrc hM h
theorem fc_calls {k : Nat} (hat : ev_at code pc = some (q0, .invokestatic k, len, a, b, w)) (hb : (b == 99) = false) (hb6 : (b == 6) = false) (hb7 : (b == 7) = false) (hp : pc + 3 = pc2) (hm : ev_ms[a]? = some (md, cde)) (hst : ev_pop md.2.2.2.2.2.1 st [] (fun as' r' => as' = as ∧ r' = r)) (hsum : (r.map fun v => v.category).sum ≤ 8) (hc : c + md.2.2.2.2.2.2.2.1 ≤ mc) (hl : sl + md.2.2.2.2.2.2.2.2 ≤ ms) (hM : fc_M call cy z0 a as sh V n P)
    (h : ∀ v sh' V' n', P v sh' V' n' → fl_Q cy z0 call sp oc mc ms nl rt code Ret pc2 L (v.toList ++ r) sh' V' n' (c + md.2.2.2.2.2.2.2.1) (sl + md.2.2.2.2.2.2.2.2)) : fl_Q cy z0 call sp oc mc ms nl rt code Ret pc L st sh V n c sl := by
  subst hp
  refine ev_R.step ?_
  unfold ev_step
  dsimp only
  rw [hat]
  dsimp only
  rw [if_neg (fun q => by rw [q] at hb; cases hb), if_neg (fun q => by rw [q] at hb6; cases hb6), if_neg (fun q => by rw [q] at hb7; cases hb7)]
  exact fc_callI (way := 0) hm rfl hst hsum hc hl trivial hM h
theorem fc_callc {k : Nat} (hat : ev_at code pc = some (q0, .invokespecial k, len, a, b, w)) (hb : (b == 99) = false) (hb5 : (b == 5) = false) (hp : pc + 3 = pc2) (hm : ev_ms[a]? = some (md, cde)) (hst : ev_pop (md.2.2.2.2.2.1 + 1) st [] (fun as' r' => as' = as ∧ r' = r)) (hsum : (r.map fun v => v.category).sum ≤ 8) (hc : c + md.2.2.2.2.2.2.2.1 ≤ mc) (hl : sl + md.2.2.2.2.2.2.2.2 ≤ ms) (hrc : ev_rcv 2 (fl_f cy z0 sh V) md.2.2.2.2.1 as) (hM : fc_M call cy z0 a as sh V n P)
    (h : ∀ v sh' V' n', P v sh' V' n' → fl_Q cy z0 call sp oc mc ms nl rt code Ret pc2 L (v.toList ++ r) sh' V' n' (c + md.2.2.2.2.2.2.2.1) (sl + md.2.2.2.2.2.2.2.2)) : fl_Q cy z0 call sp oc mc ms nl rt code Ret pc L st sh V n c sl := by
  subst hp
  refine ev_R.step ?_
  unfold ev_step
  dsimp only
  rw [hat]
  dsimp only
  rw [if_neg (fun q => by rw [q] at hb; cases hb), if_neg (fun q => by rw [q] at hb5; cases hb5)]
  exact fc_callI (way := 2) hm rfl hst hsum hc hl hrc hM h
/-- what is special goes to the hook -/
theorem fc_hook {i : Instr} (hat : ev_at code pc = some (q0, i, len, a, 99, w)) (h : sp (pc, L, st, fl_f cy z0 sh V, z0 + n, c, sl) (ev_R cy call sp oc mc ms nl rt code Ret)) : fl_Q cy z0 call sp oc mc ms nl rt code Ret pc L st sh V n c sl := by
  refine ev_R.step ?_
  unfold ev_step
  dsimp only
  rw [hat]
  dsimp only
  rw [if_pos rfl]
  exact h
theorem fa_gets (hat : ev_at code pc = some (q0, .getstatic 39, len, a, 99, w)) (ho : oc = 8) (hp : pc + 3 = pc2) (h : fl_Q cy z0 call (ev_spA cy zF ax mi oc code) oc mc ms nl rt code Ret pc2 L (.ref ax :: st) sh V n c sl) : fl_Q cy z0 call (ev_spA cy zF ax mi oc code) oc mc ms nl rt code Ret pc L st sh V n c sl := by
  refine fc_hook hat ?_
  unfold ev_spA
  dsimp only
  rw [hat]
  subst hp
  exact ⟨ho, rfl, h⟩
theorem fa_ldc (hat : ev_at code pc = some (q0, .ldc 110, len, a, 99, w)) (ho : oc = 13) (hp : pc + 2 = pc2) (h : fl_Q cy z0 call (ev_spA cy zF ax mi oc code) oc mc ms nl rt code Ret pc2 L (.ref mi :: st) sh V n c sl) : fl_Q cy z0 call (ev_spA cy zF ax mi oc code) oc mc ms nl rt code Ret pc L st sh V n c sl := by
  refine fc_hook hat ?_
  unfold ev_spA
  dsimp only
  rw [hat]
  subst hp
  exact ⟨ho, rfl, h⟩
theorem fa_getC {q z : Nat} {g : Nat → Option Nat} (hat : ev_at code pc = some (q0, .invokevirtual 86, len, a, 99, w)) (ho : oc = 13) (hp : pc + 3 = pc2) (hs : sh q = some (.inl (8, z, some (.inl g)))) (hz : z ≠ 0) (hsum : (r.map fun v => v.category).sum ≤ 8) (h : fl_Q cy z0 call (ev_spA cy zF ax mi oc code) oc mc ms nl rt code Ret pc2 L (.ref mi :: r) sh V n c sl) : fl_Q cy z0 call (ev_spA cy zF ax mi oc code) oc mc ms nl rt code Ret pc L (.ref (z0 + q) :: r) sh V n c sl := by
  refine fc_hook hat ?_
  unfold ev_spA
  dsimp only
  rw [hat]
  subst hp
  exact ⟨ho, rfl, hsum, ⟨z, _, hz, fl_at hs⟩, h⟩
theorem fa_acmp_eq {u v : Nat} {k : Int} (hat : ev_at code pc = some (q0, .if_acmp .eq k, len, a, 99, w)) (ht : (pc : Int) + k = (a : Int)) (hp : pc + 3 = pc2) (h1 : u = v → fl_Q cy z0 call (ev_spA cy zF ax mi oc code) oc mc ms nl rt code Ret a L r sh V n c sl) (h2 : ¬ u = v → fl_Q cy z0 call (ev_spA cy zF ax mi oc code) oc mc ms nl rt code Ret pc2 L r sh V n c sl) : fl_Q cy z0 call (ev_spA cy zF ax mi oc code) oc mc ms nl rt code Ret pc L (.ref v :: .ref u :: r) sh V n c sl := by
  refine fc_hook hat ?_
  unfold ev_spA
  dsimp only
  rw [hat]
  subst hp
  exact ⟨ht, fun z => h1 (Option.some.inj z), fun z => h2 (fun e => z (by rw [e]))⟩
theorem fa_acmp_ne {u v : Nat} {k : Int} (hat : ev_at code pc = some (q0, .if_acmp .ne k, len, a, 99, w)) (ht : (pc : Int) + k = (a : Int)) (hp : pc + 3 = pc2) (h1 : u = v → fl_Q cy z0 call (ev_spA cy zF ax mi oc code) oc mc ms nl rt code Ret pc2 L r sh V n c sl) (h2 : ¬ u = v → fl_Q cy z0 call (ev_spA cy zF ax mi oc code) oc mc ms nl rt code Ret a L r sh V n c sl) : fl_Q cy z0 call (ev_spA cy zF ax mi oc code) oc mc ms nl rt code Ret pc L (.ref v :: .ref u :: r) sh V n c sl := by
  refine fc_hook hat ?_
  unfold ev_spA
  dsimp only
  rw [hat]
  subst hp
  exact ⟨ht, fun z => h1 (Option.some.inj z), fun z => h2 (fun e => z (by rw [e]))⟩
theorem va_cpy_map {g h : Nat → Option Nat} {sp dp t : Nat} : (fun j => (va_cpy g h sp dp t j).map (fun k => z0 + k)) = va_cpy (fun j => (g j).map (fun k => z0 + k)) (fun j => (h j).map (fun k => z0 + k)) sp dp t := by
  funext j
  unfold va_cpy
  split <;> rfl
theorem fa_copy {k q e n0 n1 s1 d1 t1 : Nat} {sf df : Nat → Option Nat} {sp dp t : Int32} (hat : ev_at code pc = some (q0, .invokestatic k, len, a, 99, w)) (ho : (oc = 13 ∧ k = 150) ∨ (oc = 8 ∧ k = 112)) (hp : pc + 3 = pc2) (hs : sh e = some (.inl (8, n0, some (.inl sf)))) (hd : sh q = some (.inl (8, n1, some (.inl df)))) (hn1 : n0 ≠ 0 ∧ n1 ≠ 0) (e1 : sp = nI s1) (e2 : dp = nI d1) (e3 : t = nI t1) (l1 : s1 < 2 ^ 30) (l2 : d1 < 2 ^ 30) (l3 : t1 < 2 ^ 30) (h4 : s1 + t1 ≤ n0) (h5 : d1 + t1 ≤ n1) (hel : ∀ i, i < t1 → ∀ y, sf (s1 + i) = some y → ∃ slots, sh y = some (.inr (4, slots))) (hsum : (r.map fun v => v.category).sum ≤ 8)
    (h : fl_Q cy z0 call (ev_spA cy zF ax mi oc code) oc mc ms nl rt code Ret pc2 L r (va_up sh q (some (.inl (8, n1, some (.inl (va_cpy sf df s1 d1 t1)))))) V n c sl) : fl_Q cy z0 call (ev_spA cy zF ax mi oc code) oc mc ms nl rt code Ret pc L (.int t :: .int dp :: .ref (z0 + q) :: .int sp :: .ref (z0 + e) :: r) sh V n c sl := by
  subst e1; subst e2; subst e3
  refine fc_hook hat ?_
  unfold ev_spA
  dsimp only
  rw [hat]
  subst hp
  have ng : ∀ x, x < 2 ^ 30 → ¬ nI x < 0 := fun x hx => nI_nlt (b := 0) (by omega) (by omega)
  have cl : ∀ x, x < 2 ^ 30 → (nI x).toNatClampNeg = x := fun x hx => nI_clamp (by omega)
  refine ⟨ho, hsum, n0, n1, _, _, fl_at hs, fl_at hd, hn1, ng _ l1, ng _ l2, ng _ l3, by rw [cl _ l1, cl _ l3]; exact h4, by rw [cl _ l2, cl _ l3]; exact h5, ?_, ?_⟩
  · rw [cl _ l3, cl _ l1]
    intro i hi y hy
    cases hg : sf (s1 + i) with
    | none => rw [hg] at hy; cases hy
    | some y' =>
      rw [hg] at hy
      cases hy
      obtain ⟨slots, hsl⟩ := hel i hi y' hg
      exact ⟨_, fl_at hsl⟩
  · rw [cl _ l1, cl _ l2, cl _ l3, ← va_cpy_map]
    have e := fl_upd (cy := cy) (z0 := z0) (sh := sh) (sh' := va_up sh q (some (.inl (8, n1, some (.inl (va_cpy sf df s1 d1 t1)))))) (V := V) (V' := V) (k := q) (e := .inl (8, n1, some (.inl (va_cpy sf df s1 d1 t1)))) (va_up_self _ _ _) (fun a ha => ⟨va_up_ne _ _ ha, rfl⟩)
    rw [show (some (.inl (cy 8, n1, .inr (.inr (.inr (.inr fun j => (va_cpy sf df s1 d1 t1 j).map (fun k => z0 + k)))))) : Option va_E) = some (fl_e cy z0 (V q) (.inl (8, n1, some (.inl (va_cpy sf df s1 d1 t1))))) from rfl, e]
    exact h
theorem fs_dupx1_rr {u v : Nat} (hat : ev_at code pc = some (q0, .dup_x1, len, a, b, w)) (hb : (b == 99) = false) (hp : pc + len = pc2) (h : fl_Q cy z0 call sp oc mc ms nl rt code Ret pc2 L (.ref u :: .ref v :: .ref u :: r) sh V n c sl) : fl_Q cy z0 call sp oc mc ms nl rt code Ret pc L (.ref u :: .ref v :: r) sh V n c sl := by
  refine ev_R.step ?_
  unfold ev_step
  dsimp only
  rw [hat]
  dsimp only
  rw [if_neg (fun q => by rw [q] at hb; cases hb)]
  rw [hp]
  exact h
theorem fs_dupx1_ir {u : Int32} {v : Nat} (hat : ev_at code pc = some (q0, .dup_x1, len, a, b, w)) (hb : (b == 99) = false) (hp : pc + len = pc2) (h : fl_Q cy z0 call sp oc mc ms nl rt code Ret pc2 L (.int u :: .ref v :: .int u :: r) sh V n c sl) : fl_Q cy z0 call sp oc mc ms nl rt code Ret pc L (.int u :: .ref v :: r) sh V n c sl := by
  refine ev_R.step ?_
  unfold ev_step
  dsimp only
  rw [hat]
  dsimp only
  rw [if_neg (fun q => by rw [q] at hb; cases hb)]
  rw [hp]
  exact h
theorem fs_aast0 {q z : Nat} {g : Nat → Option Nat} {u : Int32} (hat : ev_at code pc = some (q0, .aastore, len, a, b, w)) (hb : (b == 99) = false) (hp : pc + len = pc2) (hs : sh q = some (.inl (a, z, some (.inl g)))) (hi : vp_in u z) (h : fl_Q cy z0 call sp oc mc ms nl rt code Ret pc2 L (r) (va_up sh q (some (.inl (a, z, some (.inl (va_up g u.toNatClampNeg none)))))) V n c sl) : fl_Q cy z0 call sp oc mc ms nl rt code Ret pc L (.null :: .int u :: .ref (z0 + q) :: r) sh V n c sl := by
  refine ev_R.step ?_
  unfold ev_step
  dsimp only
  rw [hat]
  dsimp only
  rw [if_neg (fun q => by rw [q] at hb; cases hb)]
  rw [hp]
  show ev_aq (fl_f cy z0 sh V (z0 + q)) _
  rw [fl_at hs]
  refine ⟨rfl, hi, trivial, ?_⟩
  have e := fl_put_q (cy := cy) (z0 := z0) (k := q) (t := a) (len := z) (sh := sh) (V := V) (g := g) (j := u.toNatClampNeg) (q := none)
  dsimp only [Option.map_none] at e
  rw [e]
  exact h
/-- a method of the list over the flat memory -/
def fn_M (cy : Nat → ClassId) (z0 zF ax mi d m : Nat) (as : List Value) (sh : fl_S) (V : fl_V) (n : Nat) (P : Option Value → fl_S → fl_V → Nat → Prop) : Prop := fc_M (ev_N cy zF ax mi d) cy z0 m as sh V n P
theorem fn_body {d m : Nat} {y : MethodName} {bs : ByteArray} {nl oc na kd mc ms : Nat} {rt : Option FieldType} {code : List ev_I} (hm : ev_ms[m]? = some ((y, bs, nl, rt, oc, na, kd, mc, ms), code)) (hcat : (as.all (fun v => v.category == 1) && decide (as.length ≤ nl)) = true) (h : ∀ Ret : ev_P, (∀ v sh' V' n', P v sh' V' n' → Ret v (fl_f cy z0 sh' V') (z0 + n')) → fl_Q cy z0 (ev_N cy zF ax mi (d + 1)) (ev_spA cy zF ax mi oc code) oc mc ms nl rt code Ret 0 (lv_args 0 as) [] sh V n 0 0) : fn_M cy z0 zF ax mi (d + 2) m as sh V n P := by
  intro Post hP
  unfold ev_N
  rw [hm]
  exact ⟨by omega, hcat, h Post hP⟩
end FA
section ALW
variable {cy : Nat → ClassId} {z0 zF ax mi a0 : Nat} {d : Nat} {sh : fl_S} {V : fl_V} {n : Nat}
set_option maxRecDepth 100000 in
set_option maxHeartbeats 4000000 in
theorem a_ci3 {u v : Int32} (h0 : ¬ u < 0) (hlt : u < v) : fn_M cy z0 zF ax mi (d + 2) m_J3_checkIndex_8e157 [.int u, .int v, .null] sh V n (fun v sh' V' n' => v = some (.int u) ∧ sh' = sh ∧ n' = n ∧ V' = V) := by
  refine fn_body rfl rfl (fun Ret hP => ?_)
  refine fs_iload_n (pc2 := 1) rfl rfl rfl rfl ?_
  refine fs_if_lt (pc2 := 4) rfl rfl rfl (fun h1 => ?_) (fun h1 => ?_)
  · exact absurd h1 h0
  · refine fs_iload_n (pc2 := 5) rfl rfl rfl rfl ?_
    refine fs_iload_n (pc2 := 6) rfl rfl rfl rfl ?_
    refine fs_icmp_lt (pc2 := 9) rfl rfl rfl (fun h6 => ?_) (fun h6 => ?_)
    · refine fs_iload_n (pc2 := 17) rfl rfl rfl rfl ?_
      refine fs_iret rfl rfl True.intro ?_
      exact hP _ _ _ _ ⟨rfl, rfl, rfl, rfl⟩
    · exact absurd hlt h6
set_option maxRecDepth 100000 in
set_option maxHeartbeats 4000000 in
theorem a_ci2 {u v : Int32} (h0 : ¬ u < 0) (hlt : u < v) : fn_M cy z0 zF ax mi (d + 3) m_J15_checkIndex_7cf53 [.int u, .int v] sh V n (fun v sh' V' n' => v = some (.int u) ∧ sh' = sh ∧ n' = n ∧ V' = V) := by
  refine fn_body rfl rfl (fun Ret hP => ?_)
  refine fs_iload_n (pc2 := 1) rfl rfl rfl rfl ?_
  refine fs_iload_n (pc2 := 2) rfl rfl rfl rfl ?_
  refine fs_null (pc2 := 3) rfl rfl rfl ?_
  refine fc_calls (pc2 := 6) rfl rfl rfl rfl rfl rfl ⟨rfl, rfl⟩ (Nat.le_of_ble_eq_true rfl) (Nat.le_of_ble_eq_true rfl) (Nat.le_of_ble_eq_true rfl) (a_ci3 h0 hlt) (fun v9 sh9 V9 n9 hp9 => ?_)
  obtain ⟨ea9, eb9, ec9, hv9⟩ := hp9
  cases ea9
  obtain rfl := eb9.symm
  obtain rfl := ec9.symm
  cases hv9
  refine fs_iret rfl rfl True.intro ?_
  exact hP _ _ _ _ ⟨rfl, rfl, rfl, rfl⟩
set_option maxRecDepth 100000 in
set_option maxHeartbeats 4000000 in
theorem a_newLen {l g1 g2 : Nat} (h1 : l < 1000) (h2 : g1 < 1000) (h3 : g2 < 1000) (h0 : 0 < l + max g1 g2) : fn_M cy z0 zF ax mi (d + 3) m_J8_newLength_cabcc [.int (nI l), .int (nI g1), .int (nI g2)] sh V n (fun v sh' V' n' => v = some (.int (nI (l + max g1 g2))) ∧ sh' = sh ∧ n' = n ∧ V' = V) := by
  have em : (if nI g1 < nI g2 then nI g2 else nI g1) = nI (max g1 g2) := by
    by_cases q : g1 < g2
    · rw [if_pos (nI_lt q (by omega))]; congr 1; omega
    · rw [if_neg (nI_nlt (by omega) (by omega))]; congr 1; omega
  refine fn_body rfl rfl (fun Ret hP => ?_)
  refine fs_iload_n (pc2 := 1) rfl rfl rfl rfl ?_
  refine fs_iload_n (pc2 := 2) rfl rfl rfl rfl ?_
  refine fs_iload_n (pc2 := 3) rfl rfl rfl rfl ?_
  refine fs_max (pc2 := 6) rfl rfl rfl rfl (Nat.le_of_ble_eq_true rfl) ?_
  refine fs_iadd (pc2 := 7) rfl rfl rfl ?_
  rw [em, nI_add]
  refine fs_istore_n (pc2 := 8) rfl rfl rfl (Nat.le_of_ble_eq_true rfl) ?_
  refine fs_iconst (pc2 := 9) rfl rfl rfl ?_
  refine fs_iload_n (pc2 := 10) rfl rfl rfl rfl ?_
  refine fs_icmp_ge (pc2 := 13) rfl rfl rfl (fun h10 => ?_) (fun h10 => ?_)
  · exact absurd (nI_lt (a := 0) h0 (by omega)) h10
  · refine fs_iload_n (pc2 := 14) rfl rfl rfl rfl ?_
    refine fs_ldc (pc2 := 16) rfl rfl rfl ?_
    refine fs_icmp_gt (pc2 := 19) rfl rfl rfl (fun h16 => ?_) (fun h16 => ?_)
    · exact absurd (nI_le (b := 2147483639) (by omega) (by decide)) h16
    · refine fs_iload_n (pc2 := 20) rfl rfl rfl rfl ?_
      refine fs_iret rfl rfl True.intro ?_
      exact hP _ _ _ _ ⟨rfl, rfl, rfl, rfl⟩
set_option maxRecDepth 100000 in
set_option maxHeartbeats 4000000 in
theorem a_copy3 {e l N : Nat} {g : Nat → Option Nat} (hs : sh e = some (.inl (8, l, some (.inl g)))) (he : e < n) (hl0 : 0 < l) (hlN : l ≤ N) (hN : N ≤ 600) (hN0 : 0 < N) (hg : ∀ i, i < l → ∀ y, g i = some y → y < n ∧ ∃ slots, sh y = some (.inr (4, slots))) : fn_M cy z0 zF ax mi (d + 2) m_J7_copyOf_6403c [.ref (z0 + e), .int (nI N), .ref mi] sh V n (fun v sh' V' n' => v = some (.ref (z0 + n)) ∧ sh' = (va_up sh n (some (.inl (8, N, some (.inl (va_cpy g (fun _ => none) 0 0 l)))))) ∧ V' = va_up V n (fun _ => 0) ∧ n' = n + 1) := by
  have cN : (nI N).toNatClampNeg = N := nI_clamp (by omega)
  have em : (if nI N < nI l then nI N else nI l) = nI l := if_neg (nI_nlt hlN (by omega))
  have s1 : va_up sh n (some (.inl (8, (nI N).toNatClampNeg, some (.inl fun _ => none)))) e = some (.inl (8, l, some (.inl g))) := by rw [va_up_ne _ _ (by omega)]; exact hs
  have s2 : va_up sh n (some (.inl (8, (nI N).toNatClampNeg, some (.inl fun _ => none)))) n = some (.inl (8, N, some (.inl fun _ => none))) := by rw [va_up_self, cN]
  refine fn_body rfl rfl (fun Ret hP => ?_)
  refine fs_aload_n (pc2 := 1) rfl rfl rfl rfl ?_
  refine fa_ldc (pc2 := 3) rfl rfl rfl ?_
  refine fa_acmp_ne (pc2 := 6) rfl rfl rfl (fun _ => ?_) (fun z => absurd rfl z)
  refine fs_iload_n (pc2 := 7) rfl rfl rfl rfl ?_
  refine fs_newq (pc2 := 10) rfl rfl rfl (nI_nlt (b := 0) (by omega) (by omega)) (Nat.le_of_ble_eq_true rfl) (by rw [cN]; exact Nat.le_trans (by omega) (Nat.le_refl 600)) (by rw [cN]; omega) ?_
  refine fs_goto rfl rfl ?_
  refine fs_astore_n (pc2 := 25) rfl rfl rfl (Nat.le_of_ble_eq_true rfl) ?_
  refine fs_aload_n (pc2 := 26) rfl rfl rfl rfl ?_
  refine fs_iconst (pc2 := 27) rfl rfl rfl ?_
  refine fs_aload_n (pc2 := 28) rfl rfl rfl rfl ?_
  refine fs_iconst (pc2 := 29) rfl rfl rfl ?_
  refine fs_aload_n (pc2 := 30) rfl rfl rfl rfl ?_
  refine fs_alen (pc2 := 31) rfl rfl rfl (by assumption) ?_
  refine fs_iload_n (pc2 := 32) rfl rfl rfl rfl ?_
  refine fs_min (pc2 := 35) rfl rfl rfl rfl (Nat.le_of_ble_eq_true rfl) ?_
  rw [show (Int32.ofNat l) = nI l from rfl, em]
  refine fa_copy (pc2 := 38) (s1 := 0) (d1 := 0) (t1 := l) rfl (Or.inl ⟨rfl, rfl⟩) rfl s1 s2 (by omega) rfl rfl rfl (by decide) (by decide) (by omega) (by omega) (by omega) (fun i hi y hy => ?_) (by decide) ?_
  · rw [Nat.zero_add] at hy
    obtain ⟨y1, slots, y2⟩ := hg i hi y hy
    exact ⟨slots, by rw [va_up_ne _ _ (by omega)]; exact y2⟩
  refine fs_aload_n (pc2 := 39) rfl rfl rfl rfl ?_
  refine fs_aret (q := some n) rfl rfl True.intro ?_
  exact hP _ _ _ _ ⟨rfl, va_up2, rfl, rfl⟩
set_option maxRecDepth 100000 in
set_option maxHeartbeats 4000000 in
theorem a_copy2 {e l N : Nat} {g : Nat → Option Nat} (hs : sh e = some (.inl (8, l, some (.inl g)))) (he : e < n) (hl0 : 0 < l) (hlN : l ≤ N) (hN : N ≤ 600) (hN0 : 0 < N) (hg : ∀ i, i < l → ∀ y, g i = some y → y < n ∧ ∃ slots, sh y = some (.inr (4, slots))) : fn_M cy z0 zF ax mi (d + 3) m_J7_copyOf_1904c [.ref (z0 + e), .int (nI N)] sh V n (fun v sh' V' n' => v = some (.ref (z0 + n)) ∧ sh' = (va_up sh n (some (.inl (8, N, some (.inl (va_cpy g (fun _ => none) 0 0 l)))))) ∧ V' = va_up V n (fun _ => 0) ∧ n' = n + 1) := by
  refine fn_body rfl rfl (fun Ret hP => ?_)
  refine fs_aload_n (pc2 := 1) rfl rfl rfl rfl ?_
  refine fs_iload_n (pc2 := 2) rfl rfl rfl rfl ?_
  refine fs_aload_n (pc2 := 3) rfl rfl rfl rfl ?_
  refine fa_getC (pc2 := 6) rfl rfl rfl hs (by omega) (Nat.le_of_ble_eq_true rfl) ?_
  refine fc_calls (pc2 := 9) rfl rfl rfl rfl rfl rfl ⟨rfl, rfl⟩ (Nat.le_of_ble_eq_true rfl) (Nat.le_of_ble_eq_true rfl) (Nat.le_of_ble_eq_true rfl) (a_copy3 hs he hl0 hlN hN hN0 hg) (fun v9 sh9 V9 n9 hp9 => ?_)
  obtain ⟨ea9, eb9, ec9, ed9⟩ := hp9
  subst ea9; subst eb9; subst ec9; subst ed9
  refine fs_aret (q := some n) rfl rfl True.intro ?_
  exact hP _ _ _ _ ⟨rfl, rfl, rfl, rfl⟩
set_option maxRecDepth 100000 in
set_option maxHeartbeats 4000000 in
theorem a_grow0 {w e : Nat} (hw : sh w = some (.inr (0, [none, some (some e), none]))) (hs : sh e = some (.inl (8, 0, some (.inl fun _ => none)))) (hwn : w < n) (hax : ax = z0 + e) : fn_M cy z0 zF ax mi (d + 2) m_Jx4a65c_grow_92f84 [.ref (z0 + w), .int (nI 1)] sh V n (fun v sh' V' n' => v = some (.ref (z0 + n)) ∧ n' = n + 1 ∧ sh' = va_up (va_up sh n (some (.inl (8, 10, some (.inl fun _ => none))))) w (some (.inr (0, [none, some (some n), none]))) ∧ V' = va_up V n (fun _ => 0)) := by
  have hw1 : va_up sh n (some (.inl (8, (nI 10).toNatClampNeg, some (.inl fun _ => none)))) w = some (.inr (0, [none, some (some e), none])) := by rw [va_up_ne _ _ (by omega)]; exact hw
  have c10 : (nI 10).toNatClampNeg = 10 := by decide
  have em : (if (10 : Int32) < nI 1 then nI 1 else (10 : Int32)) = nI 10 := by decide
  refine fn_body rfl rfl (fun Ret hP => ?_)
  refine fs_aload_n (pc2 := 1) rfl rfl rfl rfl ?_
  refine fs_getr (pc2 := 4) rfl rfl rfl (by assumption) rfl ?_
  refine fs_alen (pc2 := 5) rfl rfl rfl (by assumption) ?_
  refine fs_istore_n (pc2 := 6) rfl rfl rfl (Nat.le_of_ble_eq_true rfl) ?_
  refine fs_iload_n (pc2 := 7) rfl rfl rfl rfl ?_
  refine fs_if_gt (pc2 := 10) rfl rfl rfl (fun h7 => ?_) (fun h7 => ?_)
  · exact absurd (by decide) h7
  · refine fs_aload_n (pc2 := 11) rfl rfl rfl rfl ?_
    refine fs_getr (pc2 := 14) rfl rfl rfl (by assumption) rfl ?_
    refine fa_gets (pc2 := 17) rfl rfl rfl ?_
    refine fa_acmp_eq (pc2 := 20) rfl rfl rfl (fun _ => ?_) (fun z => absurd hax.symm z)
    refine fs_aload_n (pc2 := 46) rfl rfl rfl rfl ?_
    refine fs_bipush (pc2 := 48) rfl rfl rfl ?_
    refine fs_iload_n (pc2 := 49) rfl rfl rfl rfl ?_
    refine fs_max (pc2 := 52) rfl rfl rfl rfl (Nat.le_of_ble_eq_true rfl) ?_
    rw [em]
    refine fs_newq (pc2 := 55) rfl rfl rfl (by decide) (Nat.le_of_ble_eq_true rfl) (by rw [c10]; decide) (by rw [c10]; decide) ?_
    refine fs_dupx1_rr (pc2 := 56) rfl rfl rfl ?_
    refine fs_putr (pc2 := 59) rfl rfl rfl (by assumption) (Nat.le_of_ble_eq_true rfl) True.intro ?_
    refine fs_aret (q := some n) rfl rfl True.intro ?_
    refine hP _ _ _ _ ⟨rfl, rfl, ?_, rfl⟩
    rw [c10]
    rfl
set_option maxRecDepth 100000 in
set_option maxHeartbeats 4000000 in
theorem a_growL {w e l k : Nat} {g : Nat → Option Nat} (hw : sh w = some (.inr (0, [none, some (some e), none]))) (hs : sh e = some (.inl (8, l, some (.inl g)))) (hwn : w < n) (he : e < n) (hwe : w ≠ e) (hl0 : 0 < l) (hl : l ≤ 366) (hg : ∀ i, i < l → ∀ y, g i = some y → y < n ∧ ∃ slots, sh y = some (.inr (4, slots))) : fn_M cy z0 zF ax mi (d + 4) m_Jx4a65c_grow_92f84 [.ref (z0 + w), .int (nI (l + 1))] sh V n (fun v sh' V' n' => v = some (.ref (z0 + n)) ∧ n' = n + 1 ∧ sh' = va_up (va_up sh n (some (.inl (8, (l + max 1 (l / 2)), some (.inl (va_cpy g (fun _ => none) 0 0 l)))))) w (some (.inr (0, [none, some (some n), none]))) ∧ V' = va_up V n (fun _ => 0)) := by
  have es : nI (l + 1) - nI l = nI 1 := by rw [pk_sub (by omega)]; congr 1; omega
  have eh : nI l >>> ((1 : Int32) &&& 31) = nI (l / 2) := pk_shrN (by omega) ((1 : Int32) &&& 31) 1 (by decide)
  have hw1 : (va_up sh n (some (.inl (8, (l + max 1 (l / 2)), some (.inl (va_cpy g (fun _ => none) 0 0 l)))))) w = some (.inr (0, [none, some (some e), none])) := by rw [va_up_ne _ _ (by omega)]; exact hw
  refine fn_body rfl rfl (fun Ret hP => ?_)
  refine fs_aload_n (pc2 := 1) rfl rfl rfl rfl ?_
  refine fs_getr (pc2 := 4) rfl rfl rfl (by assumption) rfl ?_
  refine fs_alen (pc2 := 5) rfl rfl rfl (by assumption) ?_
  refine fs_istore_n (pc2 := 6) rfl rfl rfl (Nat.le_of_ble_eq_true rfl) ?_
  refine fs_iload_n (pc2 := 7) rfl rfl rfl rfl ?_
  refine fs_if_gt (pc2 := 10) rfl rfl rfl (fun h7 => ?_) (fun h7 => ?_)
  · refine fs_iload_n (pc2 := 21) rfl rfl rfl rfl ?_
    refine fs_iload_n (pc2 := 22) rfl rfl rfl rfl ?_
    refine fs_iload_n (pc2 := 23) rfl rfl rfl rfl ?_
    refine fs_isub (pc2 := 24) rfl rfl rfl ?_
    refine fs_iload_n (pc2 := 25) rfl rfl rfl rfl ?_
    refine fs_iconst (pc2 := 26) rfl rfl rfl ?_
    refine fs_ishr (pc2 := 27) rfl rfl rfl ?_
    rw [show (Int32.ofNat l) = nI l from rfl, es, eh]
    refine fc_calls (pc2 := 30) rfl rfl rfl rfl rfl rfl ⟨rfl, rfl⟩ (Nat.le_of_ble_eq_true rfl) (Nat.le_of_ble_eq_true rfl) (Nat.le_of_ble_eq_true rfl) (a_newLen (l := l) (g1 := 1) (g2 := l / 2) (by omega) (by decide) (by omega) (by omega)) (fun v9 sh9 V9 n9 hp9 => ?_)
    obtain ⟨ea9, eb9, ec9, hv9⟩ := hp9
    cases ea9
    obtain rfl := eb9.symm
    obtain rfl := ec9.symm
    cases hv9
    refine fs_istore_n (pc2 := 31) rfl rfl rfl (Nat.le_of_ble_eq_true rfl) ?_
    refine fs_aload_n (pc2 := 32) rfl rfl rfl rfl ?_
    refine fs_aload_n (pc2 := 33) rfl rfl rfl rfl ?_
    refine fs_getr (pc2 := 36) rfl rfl rfl (by assumption) rfl ?_
    refine fs_iload_n (pc2 := 37) rfl rfl rfl rfl ?_
    refine fc_calls (pc2 := 40) rfl rfl rfl rfl rfl rfl ⟨rfl, rfl⟩ (Nat.le_of_ble_eq_true rfl) (Nat.le_of_ble_eq_true rfl) (Nat.le_of_ble_eq_true rfl) (a_copy2 (N := (l + max 1 (l / 2))) hs he hl0 (by omega) (by omega) (by omega) hg) (fun v9 sh9 V9 n9 hp9 => ?_)
    obtain ⟨ea9, eb9, ec9, ed9⟩ := hp9
    subst ea9; subst eb9; subst ec9; subst ed9
    refine fs_dupx1_rr (pc2 := 41) rfl rfl rfl ?_
    refine fs_putr (pc2 := 44) rfl rfl rfl (by assumption) (Nat.le_of_ble_eq_true rfl) True.intro ?_
    refine fs_aret (q := some n) rfl rfl True.intro ?_
    exact hP _ _ _ _ ⟨rfl, rfl, rfl, rfl⟩
  · exact absurd (by first | exact h7 | (rw [show (Int32.ofNat l) = nI l from rfl] at h7; exact h7)) (nI_nle hl0 (by omega))
set_option maxRecDepth 100000 in
set_option maxHeartbeats 4000000 in
theorem a_grow1_0 {w e : Nat} (hw : sh w = some (.inr (0, [none, some (some e), none]))) (hs : sh e = some (.inl (8, 0, some (.inl fun _ => none)))) (hwn : w < n) (hax : ax = z0 + e) (hv : V w 2 = nI 0) : fn_M cy z0 zF ax mi (d + 3) m_Jx4a65c_grow_d5877 [.ref (z0 + w)] sh V n (fun v sh' V' n' => v = some (.ref (z0 + n)) ∧ n' = n + 1 ∧ sh' = va_up (va_up sh n (some (.inl (8, 10, some (.inl fun _ => none))))) w (some (.inr (0, [none, some (some n), none]))) ∧ V' = va_up V n (fun _ => 0)) := by
  have e1 : V w 2 + 1 = nI 1 := by rw [hv]; rfl
  refine fn_body rfl rfl (fun Ret hP => ?_)
  refine fs_aload_n (pc2 := 1) rfl rfl rfl rfl ?_
  refine fs_aload_n (pc2 := 2) rfl rfl rfl rfl ?_
  refine fs_geti (pc2 := 5) rfl rfl rfl (by assumption) rfl ?_
  refine fs_iconst (pc2 := 6) rfl rfl rfl ?_
  refine fs_iadd (pc2 := 7) rfl rfl rfl ?_
  rw [e1]
  refine fc_callv (pc2 := 10) rfl rfl rfl rfl ⟨rfl, rfl⟩ (Nat.le_of_ble_eq_true rfl) (Nat.le_of_ble_eq_true rfl) (Nat.le_of_ble_eq_true rfl) (fs_rcv rfl (by assumption)) (a_grow0 hw hs hwn hax) (fun v9 sh9 V9 n9 hp9 => ?_)
  obtain ⟨ea9, eb9, ec9, ed9⟩ := hp9
  subst ea9; subst eb9; subst ec9; subst ed9
  refine fs_aret (q := some n) rfl rfl True.intro ?_
  exact hP _ _ _ _ ⟨rfl, rfl, rfl, rfl⟩
set_option maxRecDepth 100000 in
set_option maxHeartbeats 4000000 in
theorem a_grow1_L {w e l k : Nat} {g : Nat → Option Nat} (hw : sh w = some (.inr (0, [none, some (some e), none]))) (hs : sh e = some (.inl (8, l, some (.inl g)))) (hwn : w < n) (he : e < n) (hwe : w ≠ e) (hl0 : 0 < l) (hl : l ≤ 366) (hg : ∀ i, i < l → ∀ y, g i = some y → y < n ∧ ∃ slots, sh y = some (.inr (4, slots))) (hv : V w 2 = nI l) : fn_M cy z0 zF ax mi (d + 5) m_Jx4a65c_grow_d5877 [.ref (z0 + w)] sh V n (fun v sh' V' n' => v = some (.ref (z0 + n)) ∧ n' = n + 1 ∧ sh' = va_up (va_up sh n (some (.inl (8, (l + max 1 (l / 2)), some (.inl (va_cpy g (fun _ => none) 0 0 l)))))) w (some (.inr (0, [none, some (some n), none]))) ∧ V' = va_up V n (fun _ => 0)) := by
  have e1 : V w 2 + 1 = nI (l + 1) := by rw [hv]; exact nI_1 l
  refine fn_body rfl rfl (fun Ret hP => ?_)
  refine fs_aload_n (pc2 := 1) rfl rfl rfl rfl ?_
  refine fs_aload_n (pc2 := 2) rfl rfl rfl rfl ?_
  refine fs_geti (pc2 := 5) rfl rfl rfl (by assumption) rfl ?_
  refine fs_iconst (pc2 := 6) rfl rfl rfl ?_
  refine fs_iadd (pc2 := 7) rfl rfl rfl ?_
  rw [e1]
  refine fc_callv (pc2 := 10) rfl rfl rfl rfl ⟨rfl, rfl⟩ (Nat.le_of_ble_eq_true rfl) (Nat.le_of_ble_eq_true rfl) (Nat.le_of_ble_eq_true rfl) (fs_rcv rfl (by assumption)) (a_growL (k := 0) hw hs hwn he hwe hl0 hl hg) (fun v9 sh9 V9 n9 hp9 => ?_)
  obtain ⟨ea9, eb9, ec9, ed9⟩ := hp9
  subst ea9; subst eb9; subst ec9; subst ed9
  refine fs_aret (q := some n) rfl rfl True.intro ?_
  exact hP _ _ _ _ ⟨rfl, rfl, rfl, rfl⟩
end ALW
