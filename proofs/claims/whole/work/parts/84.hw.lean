/-! LONGS over the flat memory -/
section LNG
variable {cy : Nat → ClassId} {z0 : Nat} {call : Nat → List Value → ev_H → Nat → ev_P → Prop} {sp : ev_F → (ev_F → Prop) → Prop} {oc mc ms nl : Nat} {rt : Option FieldType} {code : List ev_I} {Ret : ev_P} {pc pc2 len a b q0 : Nat} {w : Int32} {L : List (Nat × Value)} {st r : List Value} {sh : fl_S} {V : fl_V} {n c sl : Nat}
theorem fs_i2l {u : Int32} (hat : ev_at code pc = some (q0, .i2l, len, a, b, w)) (hb : (b == 99) = false) (hp : pc + len = pc2) (h : fl_Q cy z0 call sp oc mc ms nl rt code Ret pc2 L (.long u.toInt64 :: r) sh V n c sl) : fl_Q cy z0 call sp oc mc ms nl rt code Ret pc L (.int u :: r) sh V n c sl := by
  refine ev_R.step ?_
  unfold ev_step
  dsimp only
  rw [hat]
  dsimp only
  rw [if_neg (fun q => by rw [q] at hb; cases hb)]
  rw [hp]
  exact h
theorem fs_lcmp {u v : Int64} (hat : ev_at code pc = some (q0, .lcmp, len, a, b, w)) (hb : (b == 99) = false) (hp : pc + len = pc2) (h : fl_Q cy z0 call sp oc mc ms nl rt code Ret pc2 L (.int (lg_cmp u v) :: r) sh V n c sl) : fl_Q cy z0 call sp oc mc ms nl rt code Ret pc L (.long v :: .long u :: r) sh V n c sl := by
  refine ev_R.step ?_
  unfold ev_step
  dsimp only
  rw [hat]
  dsimp only
  rw [if_neg (fun q => by rw [q] at hb; cases hb)]
  rw [hp]
  exact h
theorem fs_lconst {k : Fin 2} (hat : ev_at code pc = some (q0, .lconst k, len, a, b, w)) (hb : (b == 99) = false) (hp : pc + len = pc2) (h : fl_Q cy z0 call sp oc mc ms nl rt code Ret pc2 L (.long (Int64.ofNat (k : Nat)) :: st) sh V n c sl) : fl_Q cy z0 call sp oc mc ms nl rt code Ret pc L st sh V n c sl := by
  refine ev_R.step ?_
  unfold ev_step
  dsimp only
  rw [hat]
  dsimp only
  rw [if_neg (fun q => by rw [q] at hb; cases hb)]
  rw [hp]
  exact h
theorem fs_lald {q z : Nat} {g : Nat → Int64} {u : Int32} (hat : ev_at code pc = some (q0, .laload, len, a, b, w)) (hb : (b == 99) = false) (hp : pc + len = pc2) (hs : sh q = some (.inl (3, z, some (.inr g)))) (hi : vp_in u z) (h : fl_Q cy z0 call sp oc mc ms nl rt code Ret pc2 L (.long (g u.toNatClampNeg) :: r) sh V n c sl) : fl_Q cy z0 call sp oc mc ms nl rt code Ret pc L (.int u :: .ref (z0 + q) :: r) sh V n c sl := by
  refine ev_R.step ?_
  unfold ev_step
  dsimp only
  rw [hat]
  dsimp only
  rw [if_neg (fun q => by rw [q] at hb; cases hb)]
  rw [hp]
  show ev_al (fl_f cy z0 sh V (z0 + q)) (cy 3) _
  rw [fl_at hs]
  exact ⟨rfl, hi, h⟩
theorem fs_last {q z : Nat} {g : Nat → Int64} {u : Int32} {v : Int64} (hat : ev_at code pc = some (q0, .lastore, len, a, b, w)) (hb : (b == 99) = false) (hp : pc + len = pc2) (hs : sh q = some (.inl (3, z, some (.inr g)))) (hi : vp_in u z) (h : fl_Q cy z0 call sp oc mc ms nl rt code Ret pc2 L r (va_up sh q (some (.inl (3, z, some (.inr (vp_updL g u.toNatClampNeg v)))))) V n c sl) : fl_Q cy z0 call sp oc mc ms nl rt code Ret pc L (.long v :: .int u :: .ref (z0 + q) :: r) sh V n c sl := by
  refine ev_R.step ?_
  unfold ev_step
  dsimp only
  rw [hat]
  dsimp only
  rw [if_neg (fun q => by rw [q] at hb; cases hb)]
  rw [hp]
  show ev_al (fl_f cy z0 sh V (z0 + q)) (cy 3) _
  rw [fl_at hs]
  refine ⟨rfl, hi, ?_⟩
  have e := fl_upd (cy := cy) (z0 := z0) (k := q) (sh := sh) (sh' := va_up sh q (some (.inl (3, z, some (.inr (vp_updL g u.toNatClampNeg v)))))) (V := V) (V' := V) (e := .inl (3, z, some (.inr (vp_updL g u.toNatClampNeg v)))) (va_up_self _ _ _) (fun a ha => ⟨va_up_ne _ _ ha, rfl⟩)
  dsimp only [fl_e] at e ⊢
  rw [e]
  exact h
theorem fs_newl {u : Int32} (hat : ev_at code pc = some (q0, .newarray .long, len, a, b, w)) (hb : (b == 99) = false) (hp : pc + len = pc2) (ha : a = 3) (h0 : ¬ u < 0) (hc : c + 1 ≤ mc) (hl : sl + u.toNatClampNeg ≤ ms) (hy : u.toNatClampNeg * 8 ≤ 536870912) (h : fl_Q cy z0 call sp oc mc ms nl rt code Ret pc2 L (.ref (z0 + n) :: r) (va_up sh n (some (.inl (3, u.toNatClampNeg, some (.inr fun _ => 0))))) (va_up V n (fun _ => 0)) (n + 1) (c + 1) (sl + u.toNatClampNeg)) : fl_Q cy z0 call sp oc mc ms nl rt code Ret pc L (.int u :: r) sh V n c sl := by
  refine ev_R.step ?_
  unfold ev_step
  dsimp only
  rw [hat]
  dsimp only
  rw [if_neg (fun q => by rw [q] at hb; cases hb)]
  rw [hp]
  subst ha
  refine ⟨by omega, h0, hc, hl, hy, ?_⟩
  have e := fl_new (cy := cy) (z0 := z0) (k := n) (sh := sh) (V := V) (e := .inl (3, u.toNatClampNeg, some (.inr fun _ => 0))) rfl
  dsimp only [fl_e] at e ⊢
  rw [e]
  exact h
end LNG
/-! THE HELPERS over the flat memory: what a method of CreditLink comes to (k 0: it returns; 1, 2: it throws), what a helper makes of it -/
def fl_X (l : Launch) (D : va_G) (cy : Nat → ClassId) (zF z0 d m : Nat) (as : List Value) (sh : fl_S) (V : fl_V) (n k : Nat) (P : Option Value → fl_S → fl_V → Nat → Prop) : Prop :=
  ∀ md code, ev_ms[m]? = some (md, code) → ev_Mx l D cy zF d md as (fl_f cy z0 sh V) (z0 + n) (fun v f' n' => k = 0 ∧ ∃ sh' V' n2, f' = fl_f cy z0 sh' V' ∧ n' = z0 + n2 ∧ P v sh' V' n2) (fun E f' n' => (k = 1 ∧ E = ev_IAE ∨ k = 2 ∧ E = ev_ISE) ∧ ∃ n2, f' = fl_f cy z0 sh V ∧ n' = z0 + n2 ∧ n ≤ n2)
def fl_H (l : Launch) (D : va_G) (cy : Nat → ClassId) (zF z0 d : Nat) (md : ev_Md) (hh : List (Nat × Nat × Nat × Nat)) (as : List Value) (sh : fl_S) (V : fl_V) (n : Nat) (Q : Option Value → fl_S → fl_V → Nat → Prop) : Prop :=
  ∀ Post : ev_P, (∀ v sh' V' n', Q v sh' V' n' → Post v (fl_f cy z0 sh' V') (z0 + n')) → ev_Mh l D cy zF d md hh as (fl_f cy z0 sh V) (z0 + n) Post
section HWK
variable {l : Launch} {D : va_G} {cy : Nat → ClassId} {zF z0 d : Nat} {ext : Nat → Nat → List Value → ev_H → Nat → ev_P → Prop} {m : Nat} {as : List Value} {sh : fl_S} {V : fl_V} {n k : Nat} {P : Option Value → fl_S → fl_V → Nat → Prop}
theorem fl_X.ret (hext : ∀ d m as f n Post md code, ext d m as f n Post → ev_ms[m]? = some (md, code) → ev_Mt l D cy zF (d + 1) md as f n Post) (h : fl_M cy z0 ext d m as sh V n P) : fl_X l D cy zF z0 d m as sh V n 0 P := fun md code hm => ev_Mx.of (ev_M_sound hext d m as _ _ _ md code (h _ (fun v sh' V' n' q => ⟨rfl, sh', V', n', rfl, rfl, q⟩)) hm)
theorem fl_X.thr {E9 : String} (hext : ∀ d m as f n Post md code, ext d m as f n Post → ev_ms[m]? = some (md, code) → ev_Mt l D cy zF (d + 1) md as f n Post) (hst : l.stackTraces = false) (hd : 5 ≤ d) (hk : k = 1 ∧ E9 = ev_IAE ∨ k = 2 ∧ E9 = ev_ISE) (h : fl_T cy z0 ext d m as sh V n E9) : fl_X l D cy zF z0 (d + 1) m as sh V n k P := by
  intro md code hm
  obtain ⟨y, bs, nl, rt, oc, na, kd, mc, ms⟩ := md
  obtain ⟨rfl, hca, hR⟩ := h _ _ _ _ _ _ _ _ _ _ hm
  exact ev_Mx_own hext hst hd hm hca (hR _ _ (fun n' hn => ⟨hk, n' - z0, rfl, by omega, by omega⟩))
theorem fh_call {call : Nat → List Value → ev_H → Nat → ev_P → Prop} {oc mc ms nl : Nat} {rt : Option FieldType} {code : List ev_I} {Ret : ev_P} {pc len a q0 k6 m6 : Nat} {w : Int32} {L : List (Nat × Value)} {st As r : List Value} {c0 c sl : Nat} {md6 : ev_Md} {code6 : List ev_I} {slots : List (Option (Option Nat))} {hh : List (Nat × Nat × Nat × Nat)} (hat : ev_at code pc = some (q0, .invokevirtual k6, len, a, 99, w)) (hm : ev_ms[m6]? = some (md6, code6)) (hX : fl_X l D cy zF z0 d m6 (.ref (z0 + c0) :: As) sh V n k P) (hst : st = As.reverse ++ .ref (z0 + c0) :: r) (hlen : As.length = md6.2.2.2.2.2.1) (hsum : (r.map fun v => v.category).sum ≤ 8) (hc : c + md6.2.2.2.2.2.2.2.1 ≤ mc) (hl : sl + md6.2.2.2.2.2.2.2.2 ≤ ms) (hs : sh c0 = some (.inr (7, slots)))
    (hret : ∀ v sh' V' n', k = 0 → P v sh' V' n' → fl_Q cy z0 call (ev_spH l D cy zF d k6 m6 mc ms hh code) oc mc ms nl rt code Ret (pc + 3) L (v.toList ++ r) sh' V' n' (c + md6.2.2.2.2.2.2.2.1) (sl + md6.2.2.2.2.2.2.2.2))
    (h1 : k = 1 → ∃ hd, ev_cat hh pc ev_IAE hd ∧ ∀ n' b, n ≤ n' → fl_Q cy z0 call (ev_spH l D cy zF d k6 m6 mc ms hh code) oc mc ms nl rt code Ret hd L [.ref b] sh V n' (c + md6.2.2.2.2.2.2.2.1) (sl + md6.2.2.2.2.2.2.2.2))
    (h2 : k = 2 → ∃ hd, ev_cat hh pc ev_ISE hd ∧ ∀ n' b, n ≤ n' → fl_Q cy z0 call (ev_spH l D cy zF d k6 m6 mc ms hh code) oc mc ms nl rt code Ret hd L [.ref b] sh V n' (c + md6.2.2.2.2.2.2.2.1) (sl + md6.2.2.2.2.2.2.2.2)) : fl_Q cy z0 call (ev_spH l D cy zF d k6 m6 mc ms hh code) oc mc ms nl rt code Ret pc L st sh V n c sl := by
  subst hst
  refine fc_hook hat ?_
  refine ⟨⟨_, _, _, _, _, hat⟩, md6, code6, z0 + c0, As, r, _, _, hm, rfl, hlen, hsum, hc, hl, ?_, hX md6 code6 hm, fun v f' n' q => ?_, fun E f' n' q => ?_⟩
  · show ev_ob (fl_f cy z0 sh V (z0 + c0)) 7 _
    rw [fl_at hs]
    exact ⟨rfl, trivial⟩
  · obtain ⟨hk, sh', V', n2, rfl, rfl, hp⟩ := q
    exact hret _ _ _ _ hk hp
  · obtain ⟨⟨hk, rfl⟩ | ⟨hk, rfl⟩, n2, rfl, rfl, hn⟩ := q
    · obtain ⟨hd, c1, c2⟩ := h1 hk
      exact ⟨hd, c1, fun b => c2 n2 b hn⟩
    · obtain ⟨hd, c1, c2⟩ := h2 hk
      exact ⟨hd, c1, fun b => c2 n2 b hn⟩
theorem fh_body {y : MethodName} {bytes : ByteArray} {nl na mc ms kL k6 m6 : Nat} {rt : Option FieldType} {hh : List (Nat × Nat × Nat × Nat)} {code : List ev_I} {Q : Option Value → fl_S → fl_V → Nat → Prop} (hok : code.all (ev_okb 15 0 bytes) = true) (hw : ev_Hw kL k6 (y, bytes, nl, rt, 15, na, 0, mc, ms) hh m6) (hca : (as.all (fun v => v.category == 1) && decide (as.length ≤ nl)) = true)
    (h : ∀ Ret : ev_P, (∀ v sh' V' n', Q v sh' V' n' → Ret v (fl_f cy z0 sh' V') (z0 + n')) → fl_Q cy z0 ev_noc (ev_spH l D cy zF d k6 m6 mc ms hh code) 15 mc ms nl rt code Ret 0 (lv_args 0 as) [] sh V n 0 0) : fl_H l D cy zF z0 (d + 1) (y, bytes, nl, rt, 15, na, 0, mc, ms) hh as sh V n Q := fun Post hP => ev_Mh_own hok hw hca (h Post hP)
set_option maxRecDepth 100000 in
set_option maxHeartbeats 4000000 in
theorem h_service {c : Nat} {slots : List (Option (Option Nat))} {x1 x2 x3 x4 x5 : Int32} (hs : sh c = some (.inr (7, slots))) (hk : k ≤ 1) (hPo : ∀ v sh' V' n', P v sh' V' n' → v = none) (hX : fl_X l D cy zF z0 d m_X6_service (.ref (z0 + c) :: [.int x1, .int x2, .int x3, .int x4, .int x5]) sh V n k P) : fl_H l D cy zF z0 (d + 1) md_L_service hh_service [.ref (z0 + c), .int x1, .int x2, .int x3, .int x4, .int x5] sh V n (fun v sh' V' n' => v = some (.int (nI k)) ∧ (k = 0 ∧ P none sh' V' n' ∨ k ≠ 0 ∧ sh' = sh ∧ V' = V ∧ n ≤ n')) := by
  refine fh_body ko_L_service kw_L_service rfl (fun Ret hP => ?_)
  refine fs_aload_n (pc2 := 1) rfl rfl rfl rfl ?_
  refine fs_iload_n (pc2 := 2) rfl rfl rfl rfl ?_
  refine fs_iload_n (pc2 := 3) rfl rfl rfl rfl ?_
  refine fs_iload_n (pc2 := 4) rfl rfl rfl rfl ?_
  refine fs_iload (pc2 := 6) rfl rfl rfl rfl ?_
  refine fs_iload (pc2 := 8) rfl rfl rfl rfl ?_
  refine fh_call rfl rfl hX rfl rfl (Nat.le_of_ble_eq_true rfl) (Nat.le_of_ble_eq_true rfl) (Nat.le_of_ble_eq_true rfl) hs (fun v9 sh9 V9 n9 hk9 hp9 => ?_) (fun hk9 => ⟨14, Or.inl ⟨rfl, _, _, _, rfl, (Nat.le_of_ble_eq_true rfl), (Nat.le_of_ble_eq_true rfl)⟩, fun n9 b9 hn9 => ?_⟩) (fun hk9 => absurd hk9 (by omega))
  · subst hk9
    obtain rfl := hPo _ _ _ _ hp9
    refine fs_goto rfl rfl ?_
    refine fs_iconst (pc2 := 19) rfl rfl rfl ?_
    refine fs_iret rfl rfl True.intro ?_
    exact hP _ _ _ _ ⟨rfl, Or.inl ⟨rfl, hp9⟩⟩
  · subst hk9
    refine fs_astore (pc2 := 16) rfl rfl rfl (Nat.le_of_ble_eq_true rfl) ?_
    refine fs_iconst (pc2 := 17) rfl rfl rfl ?_
    refine fs_iret rfl rfl True.intro ?_
    exact hP _ _ _ _ ⟨rfl, Or.inr ⟨by decide, rfl, rfl, hn9⟩⟩
set_option maxRecDepth 100000 in
set_option maxHeartbeats 4000000 in
theorem h_connect {c : Nat} {slots : List (Option (Option Nat))} {x1 x2 x3 x4 x5 : Int32} (hs : sh c = some (.inr (7, slots))) (hk : k ≤ 1) {oo : Nat} {g : Nat → Int64} {x9 : Int32} (hPo : ∀ v sh' V' n', P v sh' V' n' → v = some (.int x9) ∧ sh' oo = some (.inl (3, 1, some (.inr g)))) (hX : fl_X l D cy zF z0 d m_X6_connect (.ref (z0 + c) :: [.int x1, .int x2, .int x3, .int x4, .int x5]) sh V n k P) : fl_H l D cy zF z0 (d + 1) md_L_connect hh_connect [.ref (z0 + c), .int x1, .int x2, .int x3, .int x4, .int x5, .ref (z0 + oo)] sh V n (fun v sh' V' n' => v = some (.int (nI k)) ∧ ((k = 0 ∧ ∃ sh1, P (some (.int x9)) sh1 V' n' ∧ sh' = va_up sh1 oo (some (.inl (3, 1, some (.inr (vp_updL g (0 : Int32).toNatClampNeg x9.toInt64)))))) ∨ k ≠ 0 ∧ sh' = sh ∧ V' = V ∧ n ≤ n')) := by
  refine fh_body ko_L_connect kw_L_connect rfl (fun Ret hP => ?_)
  refine fs_aload (pc2 := 2) rfl rfl rfl rfl ?_
  refine fs_iconst (pc2 := 3) rfl rfl rfl ?_
  refine fs_aload_n (pc2 := 4) rfl rfl rfl rfl ?_
  refine fs_iload_n (pc2 := 5) rfl rfl rfl rfl ?_
  refine fs_iload_n (pc2 := 6) rfl rfl rfl rfl ?_
  refine fs_iload_n (pc2 := 7) rfl rfl rfl rfl ?_
  refine fs_iload (pc2 := 9) rfl rfl rfl rfl ?_
  refine fs_iload (pc2 := 11) rfl rfl rfl rfl ?_
  refine fh_call rfl rfl hX rfl rfl (Nat.le_of_ble_eq_true rfl) (Nat.le_of_ble_eq_true rfl) (Nat.le_of_ble_eq_true rfl) hs (fun v9 sh9 V9 n9 hk9 hp9 => ?_) (fun hk9 => ⟨19, Or.inl ⟨rfl, _, _, _, rfl, (Nat.le_of_ble_eq_true rfl), (Nat.le_of_ble_eq_true rfl)⟩, fun n9 b9 hn9 => ?_⟩) (fun hk9 => absurd hk9 (by omega))
  · subst hk9
    obtain ⟨rfl, hp2⟩ := hPo _ _ _ _ hp9
    have hv0 : vp_in (0 : Int32) 1 := vp_in_nI (by decide) (by decide)
    refine fs_i2l (pc2 := 15) rfl rfl rfl ?_
    refine fs_last (pc2 := 16) rfl rfl rfl hp2 hv0 ?_
    refine fs_goto rfl rfl ?_
    refine fs_iconst (pc2 := 24) rfl rfl rfl ?_
    refine fs_iret rfl rfl True.intro ?_
    exact hP _ _ _ _ ⟨rfl, Or.inl ⟨rfl, _, hp9, rfl⟩⟩
  · subst hk9
    refine fs_astore (pc2 := 21) rfl rfl rfl (Nat.le_of_ble_eq_true rfl) ?_
    refine fs_iconst (pc2 := 22) rfl rfl rfl ?_
    refine fs_iret rfl rfl True.intro ?_
    exact hP _ _ _ _ ⟨rfl, Or.inr ⟨by decide, rfl, rfl, hn9⟩⟩
set_option maxRecDepth 100000 in
set_option maxHeartbeats 4000000 in
theorem h_feed {c : Nat} {slots : List (Option (Option Nat))} {x1 x2 x3 x4 x5 : Int32} (hs : sh c = some (.inr (7, slots))) (hk : k ≤ 2) {oo : Nat} {g : Nat → Int64} {x9 : Int32} (hPo : ∀ v sh' V' n', P v sh' V' n' → v = some (.int x9) ∧ sh' oo = some (.inl (3, 1, some (.inr g)))) (hX : fl_X l D cy zF z0 d m_X6_feed (.ref (z0 + c) :: [.int x1, .int x2, .int x3, .int x4, .int x5]) sh V n k P) : fl_H l D cy zF z0 (d + 1) md_L_feed hh_feed [.ref (z0 + c), .int x1, .int x2, .int x3, .int x4, .int x5, .ref (z0 + oo)] sh V n (fun v sh' V' n' => v = some (.int (nI k)) ∧ ((k = 0 ∧ ∃ sh1, P (some (.int x9)) sh1 V' n' ∧ sh' = va_up sh1 oo (some (.inl (3, 1, some (.inr (vp_updL g (0 : Int32).toNatClampNeg x9.toInt64)))))) ∨ k ≠ 0 ∧ sh' = sh ∧ V' = V ∧ n ≤ n')) := by
  refine fh_body ko_L_feed kw_L_feed rfl (fun Ret hP => ?_)
  refine fs_aload (pc2 := 2) rfl rfl rfl rfl ?_
  refine fs_iconst (pc2 := 3) rfl rfl rfl ?_
  refine fs_aload_n (pc2 := 4) rfl rfl rfl rfl ?_
  refine fs_iload_n (pc2 := 5) rfl rfl rfl rfl ?_
  refine fs_iload_n (pc2 := 6) rfl rfl rfl rfl ?_
  refine fs_iload_n (pc2 := 7) rfl rfl rfl rfl ?_
  refine fs_iload (pc2 := 9) rfl rfl rfl rfl ?_
  refine fs_iload (pc2 := 11) rfl rfl rfl rfl ?_
  refine fh_call rfl rfl hX rfl rfl (Nat.le_of_ble_eq_true rfl) (Nat.le_of_ble_eq_true rfl) (Nat.le_of_ble_eq_true rfl) hs (fun v9 sh9 V9 n9 hk9 hp9 => ?_) (fun hk9 => ⟨19, Or.inl ⟨rfl, _, _, _, rfl, (Nat.le_of_ble_eq_true rfl), (Nat.le_of_ble_eq_true rfl)⟩, fun n9 b9 hn9 => ?_⟩) (fun hk9 => ⟨23, Or.inr ⟨rfl, _, _, _, _, _, _, rfl, (Nat.le_of_ble_eq_true rfl), (Nat.le_of_ble_eq_true rfl)⟩, fun n9 b9 hn9 => ?_⟩)
  · subst hk9
    obtain ⟨rfl, hp2⟩ := hPo _ _ _ _ hp9
    have hv0 : vp_in (0 : Int32) 1 := vp_in_nI (by decide) (by decide)
    refine fs_i2l (pc2 := 15) rfl rfl rfl ?_
    refine fs_last (pc2 := 16) rfl rfl rfl hp2 hv0 ?_
    refine fs_goto rfl rfl ?_
    refine fs_iconst (pc2 := 28) rfl rfl rfl ?_
    refine fs_iret rfl rfl True.intro ?_
    exact hP _ _ _ _ ⟨rfl, Or.inl ⟨rfl, _, hp9, rfl⟩⟩
  · subst hk9
    refine fs_astore (pc2 := 21) rfl rfl rfl (Nat.le_of_ble_eq_true rfl) ?_
    refine fs_iconst (pc2 := 22) rfl rfl rfl ?_
    refine fs_iret rfl rfl True.intro ?_
    exact hP _ _ _ _ ⟨rfl, Or.inr ⟨by decide, rfl, rfl, hn9⟩⟩
  · subst hk9
    refine fs_astore (pc2 := 25) rfl rfl rfl (Nat.le_of_ble_eq_true rfl) ?_
    refine fs_iconst (pc2 := 26) rfl rfl rfl ?_
    refine fs_iret rfl rfl True.intro ?_
    exact hP _ _ _ _ ⟨rfl, Or.inr ⟨by decide, rfl, rfl, hn9⟩⟩
set_option maxRecDepth 100000 in
set_option maxHeartbeats 4000000 in
theorem h_send {c : Nat} {slots : List (Option (Option Nat))} {x1 x2 : Int32} (hs : sh c = some (.inr (7, slots))) (hk : k ≤ 2) {oo : Nat} {g : Nat → Int64} {x9 : Int32} (hPo : ∀ v sh' V' n', P v sh' V' n' → v = some (.int x9) ∧ sh' oo = some (.inl (3, 1, some (.inr g)))) (hX : fl_X l D cy zF z0 d m_X6_send (.ref (z0 + c) :: [.int x1, .int x2]) sh V n k P) : fl_H l D cy zF z0 (d + 1) md_L_send hh_send [.ref (z0 + c), .int x1, .int x2, .ref (z0 + oo)] sh V n (fun v sh' V' n' => v = some (.int (nI k)) ∧ ((k = 0 ∧ ∃ sh1, P (some (.int x9)) sh1 V' n' ∧ sh' = va_up sh1 oo (some (.inl (3, 1, some (.inr (vp_updL g (0 : Int32).toNatClampNeg x9.toInt64)))))) ∨ k ≠ 0 ∧ sh' = sh ∧ V' = V ∧ n ≤ n')) := by
  refine fh_body ko_L_send kw_L_send rfl (fun Ret hP => ?_)
  refine fs_aload_n (pc2 := 1) rfl rfl rfl rfl ?_
  refine fs_iconst (pc2 := 2) rfl rfl rfl ?_
  refine fs_aload_n (pc2 := 3) rfl rfl rfl rfl ?_
  refine fs_iload_n (pc2 := 4) rfl rfl rfl rfl ?_
  refine fs_iload_n (pc2 := 5) rfl rfl rfl rfl ?_
  refine fh_call rfl rfl hX rfl rfl (Nat.le_of_ble_eq_true rfl) (Nat.le_of_ble_eq_true rfl) (Nat.le_of_ble_eq_true rfl) hs (fun v9 sh9 V9 n9 hk9 hp9 => ?_) (fun hk9 => ⟨13, Or.inl ⟨rfl, _, _, _, rfl, (Nat.le_of_ble_eq_true rfl), (Nat.le_of_ble_eq_true rfl)⟩, fun n9 b9 hn9 => ?_⟩) (fun hk9 => ⟨17, Or.inr ⟨rfl, _, _, _, _, _, _, rfl, (Nat.le_of_ble_eq_true rfl), (Nat.le_of_ble_eq_true rfl)⟩, fun n9 b9 hn9 => ?_⟩)
  · subst hk9
    obtain ⟨rfl, hp2⟩ := hPo _ _ _ _ hp9
    have hv0 : vp_in (0 : Int32) 1 := vp_in_nI (by decide) (by decide)
    refine fs_i2l (pc2 := 9) rfl rfl rfl ?_
    refine fs_last (pc2 := 10) rfl rfl rfl hp2 hv0 ?_
    refine fs_goto rfl rfl ?_
    refine fs_iconst (pc2 := 22) rfl rfl rfl ?_
    refine fs_iret rfl rfl True.intro ?_
    exact hP _ _ _ _ ⟨rfl, Or.inl ⟨rfl, _, hp9, rfl⟩⟩
  · subst hk9
    refine fs_astore (pc2 := 15) rfl rfl rfl (Nat.le_of_ble_eq_true rfl) ?_
    refine fs_iconst (pc2 := 16) rfl rfl rfl ?_
    refine fs_iret rfl rfl True.intro ?_
    exact hP _ _ _ _ ⟨rfl, Or.inr ⟨by decide, rfl, rfl, hn9⟩⟩
  · subst hk9
    refine fs_astore (pc2 := 19) rfl rfl rfl (Nat.le_of_ble_eq_true rfl) ?_
    refine fs_iconst (pc2 := 20) rfl rfl rfl ?_
    refine fs_iret rfl rfl True.intro ?_
    exact hP _ _ _ _ ⟨rfl, Or.inr ⟨by decide, rfl, rfl, hn9⟩⟩
set_option maxRecDepth 100000 in
set_option maxHeartbeats 4000000 in
theorem h_grant {c : Nat} {slots : List (Option (Option Nat))} {x1 x2 x3 : Int32} (hs : sh c = some (.inr (7, slots))) (hk : k ≤ 2) {oo : Nat} {g : Nat → Int64} {x9 : Int32} (hPo : ∀ v sh' V' n', P v sh' V' n' → v = some (.int x9) ∧ sh' oo = some (.inl (3, 1, some (.inr g)))) (hX : fl_X l D cy zF z0 d m_X6_grant (.ref (z0 + c) :: [.int x1, .int x2, .int x3]) sh V n k P) : fl_H l D cy zF z0 (d + 1) md_L_grant hh_grant [.ref (z0 + c), .int x1, .int x2, .int x3, .ref (z0 + oo)] sh V n (fun v sh' V' n' => v = some (.int (nI k)) ∧ ((k = 0 ∧ ∃ sh1, P (some (.int x9)) sh1 V' n' ∧ sh' = va_up sh1 oo (some (.inl (3, 1, some (.inr (vp_updL g (0 : Int32).toNatClampNeg x9.toInt64)))))) ∨ k ≠ 0 ∧ sh' = sh ∧ V' = V ∧ n ≤ n')) := by
  refine fh_body ko_L_grant kw_L_grant rfl (fun Ret hP => ?_)
  refine fs_aload (pc2 := 2) rfl rfl rfl rfl ?_
  refine fs_iconst (pc2 := 3) rfl rfl rfl ?_
  refine fs_aload_n (pc2 := 4) rfl rfl rfl rfl ?_
  refine fs_iload_n (pc2 := 5) rfl rfl rfl rfl ?_
  refine fs_iload_n (pc2 := 6) rfl rfl rfl rfl ?_
  refine fs_iload_n (pc2 := 7) rfl rfl rfl rfl ?_
  refine fh_call rfl rfl hX rfl rfl (Nat.le_of_ble_eq_true rfl) (Nat.le_of_ble_eq_true rfl) (Nat.le_of_ble_eq_true rfl) hs (fun v9 sh9 V9 n9 hk9 hp9 => ?_) (fun hk9 => ⟨15, Or.inl ⟨rfl, _, _, _, rfl, (Nat.le_of_ble_eq_true rfl), (Nat.le_of_ble_eq_true rfl)⟩, fun n9 b9 hn9 => ?_⟩) (fun hk9 => ⟨19, Or.inr ⟨rfl, _, _, _, _, _, _, rfl, (Nat.le_of_ble_eq_true rfl), (Nat.le_of_ble_eq_true rfl)⟩, fun n9 b9 hn9 => ?_⟩)
  · subst hk9
    obtain ⟨rfl, hp2⟩ := hPo _ _ _ _ hp9
    have hv0 : vp_in (0 : Int32) 1 := vp_in_nI (by decide) (by decide)
    refine fs_i2l (pc2 := 11) rfl rfl rfl ?_
    refine fs_last (pc2 := 12) rfl rfl rfl hp2 hv0 ?_
    refine fs_goto rfl rfl ?_
    refine fs_iconst (pc2 := 24) rfl rfl rfl ?_
    refine fs_iret rfl rfl True.intro ?_
    exact hP _ _ _ _ ⟨rfl, Or.inl ⟨rfl, _, hp9, rfl⟩⟩
  · subst hk9
    refine fs_astore (pc2 := 17) rfl rfl rfl (Nat.le_of_ble_eq_true rfl) ?_
    refine fs_iconst (pc2 := 18) rfl rfl rfl ?_
    refine fs_iret rfl rfl True.intro ?_
    exact hP _ _ _ _ ⟨rfl, Or.inr ⟨by decide, rfl, rfl, hn9⟩⟩
  · subst hk9
    refine fs_astore (pc2 := 21) rfl rfl rfl (Nat.le_of_ble_eq_true rfl) ?_
    refine fs_iconst (pc2 := 22) rfl rfl rfl ?_
    refine fs_iret rfl rfl True.intro ?_
    exact hP _ _ _ _ ⟨rfl, Or.inr ⟨by decide, rfl, rfl, hn9⟩⟩
set_option maxRecDepth 100000 in
set_option maxHeartbeats 4000000 in
theorem h_leave {c : Nat} {slots : List (Option (Option Nat))} {x1 x2 : Int32} (hs : sh c = some (.inr (7, slots))) (hk : k ≤ 2) (hPo : ∀ v sh' V' n', P v sh' V' n' → v = none) (hX : fl_X l D cy zF z0 d m_X6_leave (.ref (z0 + c) :: [.int x1, .int x2]) sh V n k P) : fl_H l D cy zF z0 (d + 1) md_L_leave hh_leave [.ref (z0 + c), .int x1, .int x2] sh V n (fun v sh' V' n' => v = some (.int (nI k)) ∧ (k = 0 ∧ P none sh' V' n' ∨ k ≠ 0 ∧ sh' = sh ∧ V' = V ∧ n ≤ n')) := by
  refine fh_body ko_L_leave kw_L_leave rfl (fun Ret hP => ?_)
  refine fs_aload_n (pc2 := 1) rfl rfl rfl rfl ?_
  refine fs_iload_n (pc2 := 2) rfl rfl rfl rfl ?_
  refine fs_iload_n (pc2 := 3) rfl rfl rfl rfl ?_
  refine fh_call rfl rfl hX rfl rfl (Nat.le_of_ble_eq_true rfl) (Nat.le_of_ble_eq_true rfl) (Nat.le_of_ble_eq_true rfl) hs (fun v9 sh9 V9 n9 hk9 hp9 => ?_) (fun hk9 => ⟨9, Or.inl ⟨rfl, _, _, _, rfl, (Nat.le_of_ble_eq_true rfl), (Nat.le_of_ble_eq_true rfl)⟩, fun n9 b9 hn9 => ?_⟩) (fun hk9 => ⟨12, Or.inr ⟨rfl, _, _, _, _, _, _, rfl, (Nat.le_of_ble_eq_true rfl), (Nat.le_of_ble_eq_true rfl)⟩, fun n9 b9 hn9 => ?_⟩)
  · subst hk9
    obtain rfl := hPo _ _ _ _ hp9
    refine fs_goto rfl rfl ?_
    refine fs_iconst (pc2 := 16) rfl rfl rfl ?_
    refine fs_iret rfl rfl True.intro ?_
    exact hP _ _ _ _ ⟨rfl, Or.inl ⟨rfl, hp9⟩⟩
  · subst hk9
    refine fs_astore_n (pc2 := 10) rfl rfl rfl (Nat.le_of_ble_eq_true rfl) ?_
    refine fs_iconst (pc2 := 11) rfl rfl rfl ?_
    refine fs_iret rfl rfl True.intro ?_
    exact hP _ _ _ _ ⟨rfl, Or.inr ⟨by decide, rfl, rfl, hn9⟩⟩
  · subst hk9
    refine fs_astore_n (pc2 := 13) rfl rfl rfl (Nat.le_of_ble_eq_true rfl) ?_
    refine fs_iconst (pc2 := 14) rfl rfl rfl ?_
    refine fs_iret rfl rfl True.intro ?_
    exact hP _ _ _ _ ⟨rfl, Or.inr ⟨by decide, rfl, rfl, hn9⟩⟩
set_option maxRecDepth 100000 in
set_option maxHeartbeats 4000000 in
theorem h_take {c : Nat} {slots : List (Option (Option Nat))} {x1 : Int32} (hs : sh c = some (.inr (7, slots))) (hk : k ≤ 1) {oo : Nat} {g : Nat → Int64} {x9 : Int32} (hPo : ∀ v sh' V' n', P v sh' V' n' → v = some (.int x9) ∧ sh' oo = some (.inl (3, 1, some (.inr g)))) (hX : fl_X l D cy zF z0 d m_X6_take (.ref (z0 + c) :: [.int x1]) sh V n k P) : fl_H l D cy zF z0 (d + 1) md_L_take hh_take [.ref (z0 + c), .int x1, .ref (z0 + oo)] sh V n (fun v sh' V' n' => v = some (.int (nI k)) ∧ ((k = 0 ∧ ∃ sh1, P (some (.int x9)) sh1 V' n' ∧ sh' = va_up sh1 oo (some (.inl (3, 1, some (.inr (vp_updL g (0 : Int32).toNatClampNeg x9.toInt64)))))) ∨ k ≠ 0 ∧ sh' = sh ∧ V' = V ∧ n ≤ n')) := by
  refine fh_body ko_L_take kw_L_take rfl (fun Ret hP => ?_)
  refine fs_aload_n (pc2 := 1) rfl rfl rfl rfl ?_
  refine fs_iconst (pc2 := 2) rfl rfl rfl ?_
  refine fs_aload_n (pc2 := 3) rfl rfl rfl rfl ?_
  refine fs_iload_n (pc2 := 4) rfl rfl rfl rfl ?_
  refine fh_call rfl rfl hX rfl rfl (Nat.le_of_ble_eq_true rfl) (Nat.le_of_ble_eq_true rfl) (Nat.le_of_ble_eq_true rfl) hs (fun v9 sh9 V9 n9 hk9 hp9 => ?_) (fun hk9 => ⟨12, Or.inl ⟨rfl, _, _, _, rfl, (Nat.le_of_ble_eq_true rfl), (Nat.le_of_ble_eq_true rfl)⟩, fun n9 b9 hn9 => ?_⟩) (fun hk9 => absurd hk9 (by omega))
  · subst hk9
    obtain ⟨rfl, hp2⟩ := hPo _ _ _ _ hp9
    have hv0 : vp_in (0 : Int32) 1 := vp_in_nI (by decide) (by decide)
    refine fs_i2l (pc2 := 8) rfl rfl rfl ?_
    refine fs_last (pc2 := 9) rfl rfl rfl hp2 hv0 ?_
    refine fs_goto rfl rfl ?_
    refine fs_iconst (pc2 := 16) rfl rfl rfl ?_
    refine fs_iret rfl rfl True.intro ?_
    exact hP _ _ _ _ ⟨rfl, Or.inl ⟨rfl, _, hp9, rfl⟩⟩
  · subst hk9
    refine fs_astore_n (pc2 := 13) rfl rfl rfl (Nat.le_of_ble_eq_true rfl) ?_
    refine fs_iconst (pc2 := 14) rfl rfl rfl ?_
    refine fs_iret rfl rfl True.intro ?_
    exact hP _ _ _ _ ⟨rfl, Or.inr ⟨by decide, rfl, rfl, hn9⟩⟩
set_option maxRecDepth 100000 in
set_option maxHeartbeats 4000000 in
theorem h_lose {c : Nat} {slots : List (Option (Option Nat))} {x1 : Int32} (hs : sh c = some (.inr (7, slots))) (hk : k ≤ 1) {oo : Nat} {g : Nat → Int64} {x9 : Int32} (hPo : ∀ v sh' V' n', P v sh' V' n' → v = some (.int x9) ∧ sh' oo = some (.inl (3, 1, some (.inr g)))) (hX : fl_X l D cy zF z0 d m_X6_lose (.ref (z0 + c) :: [.int x1]) sh V n k P) : fl_H l D cy zF z0 (d + 1) md_L_lose hh_lose [.ref (z0 + c), .int x1, .ref (z0 + oo)] sh V n (fun v sh' V' n' => v = some (.int (nI k)) ∧ ((k = 0 ∧ ∃ sh1, P (some (.int x9)) sh1 V' n' ∧ sh' = va_up sh1 oo (some (.inl (3, 1, some (.inr (vp_updL g (0 : Int32).toNatClampNeg (if x9 = 0 then 0 else 1))))))) ∨ k ≠ 0 ∧ sh' = sh ∧ V' = V ∧ n ≤ n')) := by
  refine fh_body ko_L_lose kw_L_lose rfl (fun Ret hP => ?_)
  refine fs_aload_n (pc2 := 1) rfl rfl rfl rfl ?_
  refine fs_iconst (pc2 := 2) rfl rfl rfl ?_
  refine fs_aload_n (pc2 := 3) rfl rfl rfl rfl ?_
  refine fs_iload_n (pc2 := 4) rfl rfl rfl rfl ?_
  refine fh_call rfl rfl hX rfl rfl (Nat.le_of_ble_eq_true rfl) (Nat.le_of_ble_eq_true rfl) (Nat.le_of_ble_eq_true rfl) hs (fun v9 sh9 V9 n9 hk9 hp9 => ?_) (fun hk9 => ⟨19, Or.inl ⟨rfl, _, _, _, rfl, (Nat.le_of_ble_eq_true rfl), (Nat.le_of_ble_eq_true rfl)⟩, fun n9 b9 hn9 => ?_⟩) (fun hk9 => absurd hk9 (by omega))
  · subst hk9
    obtain ⟨rfl, hp2⟩ := hPo _ _ _ _ hp9
    have hv0 : vp_in (0 : Int32) 1 := vp_in_nI (by decide) (by decide)
    refine fs_if_eq (pc2 := 10) rfl rfl rfl (fun h7 => ?_) (fun h7 => ?_)
    · refine fs_lconst (pc2 := 15) rfl rfl rfl ?_
      refine fs_last (pc2 := 16) rfl rfl rfl hp2 hv0 ?_
      refine fs_goto rfl rfl ?_
      refine fs_iconst (pc2 := 23) rfl rfl rfl ?_
      refine fs_iret rfl rfl True.intro ?_
      exact hP _ _ _ _ ⟨rfl, Or.inl ⟨rfl, _, hp9, by rw [if_pos h7]; rfl⟩⟩
    · refine fs_lconst (pc2 := 11) rfl rfl rfl ?_
      refine fs_goto rfl rfl ?_
      refine fs_last (pc2 := 16) rfl rfl rfl hp2 hv0 ?_
      refine fs_goto rfl rfl ?_
      refine fs_iconst (pc2 := 23) rfl rfl rfl ?_
      refine fs_iret rfl rfl True.intro ?_
      exact hP _ _ _ _ ⟨rfl, Or.inl ⟨rfl, _, hp9, by rw [if_neg h7]; rfl⟩⟩
  · subst hk9
    refine fs_astore_n (pc2 := 20) rfl rfl rfl (Nat.le_of_ble_eq_true rfl) ?_
    refine fs_iconst (pc2 := 21) rfl rfl rfl ?_
    refine fs_iret rfl rfl True.intro ?_
    exact hP _ _ _ _ ⟨rfl, Or.inr ⟨by decide, rfl, rfl, hn9⟩⟩
set_option maxRecDepth 100000 in
set_option maxHeartbeats 4000000 in
theorem h_inject {c : Nat} {slots : List (Option (Option Nat))} {x1 x2 x3 : Int32} (hs : sh c = some (.inr (7, slots))) (hk : k ≤ 1) {oo : Nat} {g : Nat → Int64} {x9 : Int32} (hPo : ∀ v sh' V' n', P v sh' V' n' → v = some (.int x9) ∧ sh' oo = some (.inl (3, 1, some (.inr g)))) (hX : fl_X l D cy zF z0 d m_X6_inject (.ref (z0 + c) :: [.int x1, .int x2, .int x3]) sh V n k P) : fl_H l D cy zF z0 (d + 1) md_L_inject hh_inject [.ref (z0 + c), .int x1, .int x2, .int x3, .ref (z0 + oo)] sh V n (fun v sh' V' n' => v = some (.int (nI k)) ∧ ((k = 0 ∧ ∃ sh1, P (some (.int x9)) sh1 V' n' ∧ sh' = va_up sh1 oo (some (.inl (3, 1, some (.inr (vp_updL g (0 : Int32).toNatClampNeg x9.toInt64)))))) ∨ k ≠ 0 ∧ sh' = sh ∧ V' = V ∧ n ≤ n')) := by
  refine fh_body ko_L_inject kw_L_inject rfl (fun Ret hP => ?_)
  refine fs_aload (pc2 := 2) rfl rfl rfl rfl ?_
  refine fs_iconst (pc2 := 3) rfl rfl rfl ?_
  refine fs_aload_n (pc2 := 4) rfl rfl rfl rfl ?_
  refine fs_iload_n (pc2 := 5) rfl rfl rfl rfl ?_
  refine fs_iload_n (pc2 := 6) rfl rfl rfl rfl ?_
  refine fs_iload_n (pc2 := 7) rfl rfl rfl rfl ?_
  refine fh_call rfl rfl hX rfl rfl (Nat.le_of_ble_eq_true rfl) (Nat.le_of_ble_eq_true rfl) (Nat.le_of_ble_eq_true rfl) hs (fun v9 sh9 V9 n9 hk9 hp9 => ?_) (fun hk9 => ⟨15, Or.inl ⟨rfl, _, _, _, rfl, (Nat.le_of_ble_eq_true rfl), (Nat.le_of_ble_eq_true rfl)⟩, fun n9 b9 hn9 => ?_⟩) (fun hk9 => absurd hk9 (by omega))
  · subst hk9
    obtain ⟨rfl, hp2⟩ := hPo _ _ _ _ hp9
    have hv0 : vp_in (0 : Int32) 1 := vp_in_nI (by decide) (by decide)
    refine fs_i2l (pc2 := 11) rfl rfl rfl ?_
    refine fs_last (pc2 := 12) rfl rfl rfl hp2 hv0 ?_
    refine fs_goto rfl rfl ?_
    refine fs_iconst (pc2 := 20) rfl rfl rfl ?_
    refine fs_iret rfl rfl True.intro ?_
    exact hP _ _ _ _ ⟨rfl, Or.inl ⟨rfl, _, hp9, rfl⟩⟩
  · subst hk9
    refine fs_astore (pc2 := 17) rfl rfl rfl (Nat.le_of_ble_eq_true rfl) ?_
    refine fs_iconst (pc2 := 18) rfl rfl rfl ?_
    refine fs_iret rfl rfl True.intro ?_
    exact hP _ _ _ _ ⟨rfl, Or.inr ⟨by decide, rfl, rfl, hn9⟩⟩
set_option maxRecDepth 100000 in
set_option maxHeartbeats 4000000 in
theorem h_receive {c : Nat} {slots : List (Option (Option Nat))} {x1 x2 : Int32} (hs : sh c = some (.inr (7, slots))) (hk : k ≤ 1) {oo : Nat} {g : Nat → Int64} {x9 : Int32} (hPo : ∀ v sh' V' n', P v sh' V' n' → v = some (.int x9) ∧ sh' oo = some (.inl (3, 1, some (.inr g)))) (hX : fl_X l D cy zF z0 d m_X6_receive (.ref (z0 + c) :: [.int x1, .int x2]) sh V n k P) : fl_H l D cy zF z0 (d + 1) md_L_receive hh_receive [.ref (z0 + c), .int x1, .int x2, .ref (z0 + oo)] sh V n (fun v sh' V' n' => v = some (.int (nI k)) ∧ ((k = 0 ∧ ∃ sh1, P (some (.int x9)) sh1 V' n' ∧ sh' = va_up sh1 oo (some (.inl (3, 1, some (.inr (vp_updL g (0 : Int32).toNatClampNeg x9.toInt64)))))) ∨ k ≠ 0 ∧ sh' = sh ∧ V' = V ∧ n ≤ n')) := by
  refine fh_body ko_L_receive kw_L_receive rfl (fun Ret hP => ?_)
  refine fs_aload_n (pc2 := 1) rfl rfl rfl rfl ?_
  refine fs_iconst (pc2 := 2) rfl rfl rfl ?_
  refine fs_aload_n (pc2 := 3) rfl rfl rfl rfl ?_
  refine fs_iload_n (pc2 := 4) rfl rfl rfl rfl ?_
  refine fs_iload_n (pc2 := 5) rfl rfl rfl rfl ?_
  refine fh_call rfl rfl hX rfl rfl (Nat.le_of_ble_eq_true rfl) (Nat.le_of_ble_eq_true rfl) (Nat.le_of_ble_eq_true rfl) hs (fun v9 sh9 V9 n9 hk9 hp9 => ?_) (fun hk9 => ⟨13, Or.inl ⟨rfl, _, _, _, rfl, (Nat.le_of_ble_eq_true rfl), (Nat.le_of_ble_eq_true rfl)⟩, fun n9 b9 hn9 => ?_⟩) (fun hk9 => absurd hk9 (by omega))
  · subst hk9
    obtain ⟨rfl, hp2⟩ := hPo _ _ _ _ hp9
    have hv0 : vp_in (0 : Int32) 1 := vp_in_nI (by decide) (by decide)
    refine fs_i2l (pc2 := 9) rfl rfl rfl ?_
    refine fs_last (pc2 := 10) rfl rfl rfl hp2 hv0 ?_
    refine fs_goto rfl rfl ?_
    refine fs_iconst (pc2 := 18) rfl rfl rfl ?_
    refine fs_iret rfl rfl True.intro ?_
    exact hP _ _ _ _ ⟨rfl, Or.inl ⟨rfl, _, hp9, rfl⟩⟩
  · subst hk9
    refine fs_astore (pc2 := 15) rfl rfl rfl (Nat.le_of_ble_eq_true rfl) ?_
    refine fs_iconst (pc2 := 16) rfl rfl rfl ?_
    refine fs_iret rfl rfl True.intro ?_
    exact hP _ _ _ _ ⟨rfl, Or.inr ⟨by decide, rfl, rfl, hn9⟩⟩
set_option maxRecDepth 100000 in
set_option maxHeartbeats 4000000 in
theorem h_channel {c : Nat} {slots : List (Option (Option Nat))} {x1 x2 x3 : Int32} (hs : sh c = some (.inr (7, slots))) (hk : k ≤ 1) {oo : Nat} {g : Nat → Int64} {x9 : Int32} (hPo : ∀ v sh' V' n', P v sh' V' n' → v = some (.int x9) ∧ sh' oo = some (.inl (3, 1, some (.inr g)))) (hX : fl_X l D cy zF z0 d m_X6_channel (.ref (z0 + c) :: [.int x1, .int x2, .int x3]) sh V n k P) : fl_H l D cy zF z0 (d + 1) md_L_channel hh_channel [.ref (z0 + c), .int x1, .int x2, .int x3, .ref (z0 + oo)] sh V n (fun v sh' V' n' => v = some (.int (nI k)) ∧ ((k = 0 ∧ ∃ sh1, P (some (.int x9)) sh1 V' n' ∧ sh' = va_up sh1 oo (some (.inl (3, 1, some (.inr (vp_updL g (0 : Int32).toNatClampNeg x9.toInt64)))))) ∨ k ≠ 0 ∧ sh' = sh ∧ V' = V ∧ n ≤ n')) := by
  refine fh_body ko_L_channel kw_L_channel rfl (fun Ret hP => ?_)
  refine fs_aload (pc2 := 2) rfl rfl rfl rfl ?_
  refine fs_iconst (pc2 := 3) rfl rfl rfl ?_
  refine fs_aload_n (pc2 := 4) rfl rfl rfl rfl ?_
  refine fs_iload_n (pc2 := 5) rfl rfl rfl rfl ?_
  refine fs_iload_n (pc2 := 6) rfl rfl rfl rfl ?_
  refine fs_iload_n (pc2 := 7) rfl rfl rfl rfl ?_
  refine fh_call rfl rfl hX rfl rfl (Nat.le_of_ble_eq_true rfl) (Nat.le_of_ble_eq_true rfl) (Nat.le_of_ble_eq_true rfl) hs (fun v9 sh9 V9 n9 hk9 hp9 => ?_) (fun hk9 => ⟨15, Or.inl ⟨rfl, _, _, _, rfl, (Nat.le_of_ble_eq_true rfl), (Nat.le_of_ble_eq_true rfl)⟩, fun n9 b9 hn9 => ?_⟩) (fun hk9 => absurd hk9 (by omega))
  · subst hk9
    obtain ⟨rfl, hp2⟩ := hPo _ _ _ _ hp9
    have hv0 : vp_in (0 : Int32) 1 := vp_in_nI (by decide) (by decide)
    refine fs_i2l (pc2 := 11) rfl rfl rfl ?_
    refine fs_last (pc2 := 12) rfl rfl rfl hp2 hv0 ?_
    refine fs_goto rfl rfl ?_
    refine fs_iconst (pc2 := 20) rfl rfl rfl ?_
    refine fs_iret rfl rfl True.intro ?_
    exact hP _ _ _ _ ⟨rfl, Or.inl ⟨rfl, _, hp9, rfl⟩⟩
  · subst hk9
    refine fs_astore (pc2 := 17) rfl rfl rfl (Nat.le_of_ble_eq_true rfl) ?_
    refine fs_iconst (pc2 := 18) rfl rfl rfl ?_
    refine fs_iret rfl rfl True.intro ?_
    exact hP _ _ _ _ ⟨rfl, Or.inr ⟨by decide, rfl, rfl, hn9⟩⟩
set_option maxRecDepth 100000 in
set_option maxHeartbeats 4000000 in
theorem h_count {c : Nat} {slots : List (Option (Option Nat))} {x1 x2 : Int32} (hs : sh c = some (.inr (7, slots))) (hk : k ≤ 1) {oo : Nat} {g : Nat → Int64} {x9 : Int32} (hPo : ∀ v sh' V' n', P v sh' V' n' → v = some (.int x9) ∧ sh' oo = some (.inl (3, 1, some (.inr g)))) (hX : fl_X l D cy zF z0 d m_X6_count (.ref (z0 + c) :: [.int x1, .int x2]) sh V n k P) : fl_H l D cy zF z0 (d + 1) md_L_count hh_count [.ref (z0 + c), .int x1, .int x2, .ref (z0 + oo)] sh V n (fun v sh' V' n' => v = some (.int (nI k)) ∧ ((k = 0 ∧ ∃ sh1, P (some (.int x9)) sh1 V' n' ∧ sh' = va_up sh1 oo (some (.inl (3, 1, some (.inr (vp_updL g (0 : Int32).toNatClampNeg x9.toInt64)))))) ∨ k ≠ 0 ∧ sh' = sh ∧ V' = V ∧ n ≤ n')) := by
  refine fh_body ko_L_count kw_L_count rfl (fun Ret hP => ?_)
  refine fs_aload_n (pc2 := 1) rfl rfl rfl rfl ?_
  refine fs_iconst (pc2 := 2) rfl rfl rfl ?_
  refine fs_aload_n (pc2 := 3) rfl rfl rfl rfl ?_
  refine fs_iload_n (pc2 := 4) rfl rfl rfl rfl ?_
  refine fs_iload_n (pc2 := 5) rfl rfl rfl rfl ?_
  refine fh_call rfl rfl hX rfl rfl (Nat.le_of_ble_eq_true rfl) (Nat.le_of_ble_eq_true rfl) (Nat.le_of_ble_eq_true rfl) hs (fun v9 sh9 V9 n9 hk9 hp9 => ?_) (fun hk9 => ⟨13, Or.inl ⟨rfl, _, _, _, rfl, (Nat.le_of_ble_eq_true rfl), (Nat.le_of_ble_eq_true rfl)⟩, fun n9 b9 hn9 => ?_⟩) (fun hk9 => absurd hk9 (by omega))
  · subst hk9
    obtain ⟨rfl, hp2⟩ := hPo _ _ _ _ hp9
    have hv0 : vp_in (0 : Int32) 1 := vp_in_nI (by decide) (by decide)
    refine fs_i2l (pc2 := 9) rfl rfl rfl ?_
    refine fs_last (pc2 := 10) rfl rfl rfl hp2 hv0 ?_
    refine fs_goto rfl rfl ?_
    refine fs_iconst (pc2 := 18) rfl rfl rfl ?_
    refine fs_iret rfl rfl True.intro ?_
    exact hP _ _ _ _ ⟨rfl, Or.inl ⟨rfl, _, hp9, rfl⟩⟩
  · subst hk9
    refine fs_astore (pc2 := 15) rfl rfl rfl (Nat.le_of_ble_eq_true rfl) ?_
    refine fs_iconst (pc2 := 16) rfl rfl rfl ?_
    refine fs_iret rfl rfl True.intro ?_
    exact hP _ _ _ _ ⟨rfl, Or.inr ⟨by decide, rfl, rfl, hn9⟩⟩
end HWK
