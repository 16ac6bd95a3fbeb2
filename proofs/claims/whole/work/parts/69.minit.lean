/-! the model is made: j of its rows stand -/
def moF (f : Nat) : Nat := if f = 1 then 0 else f - 2
def moSl (mb j : Nat) : List (Option (Option Nat)) := (List.range 48).map (fun f => if f = 0 ∨ f = 2 ∨ f = 47 then none else if moF f < j then some (some (mb + 1 + moF f)) else some none)
theorem moSl_set {mb j b : Nat} (hj : j < 45) (hb : b = if j = 0 then 1 else j + 2) : (moSl mb j).set b (some (some (mb + 1 + j))) = moSl mb (j + 1) := by
  unfold moSl
  apply List.ext_getElem
  · simp
  · intro i h1 h2
    simp only [List.length_set, List.length_map, List.length_range] at h1
    rw [List.getElem_set]
    simp only [List.getElem_map, List.getElem_range]
    by_cases q : b = i
    · subst q
      rw [if_pos rfl]
      have e : moF b = j := by unfold moF; split at hb <;> split <;> omega
      rw [if_neg (by split at hb <;> omega), e, if_pos (by omega)]
    · rw [if_neg q]
      by_cases z : i = 0 ∨ i = 2 ∨ i = 47
      · rw [if_pos z, if_pos z]
      · rw [if_neg z, if_neg z]
        have e : moF i ≠ j := by unfold moF; split at hb <;> split <;> omega
        by_cases y : moF i < j
        · rw [if_pos y, if_pos (by omega)]
        · rw [if_neg y, if_neg (by omega)]
def MI (sh0 : fl_S) (V0 : fl_V) (sh : fl_S) (V : fl_V) (mb j : Nat) : Prop := sh mb = some (.inr (8, moSl mb j)) ∧ V mb = (fun _ => 0) ∧ (∀ (i : Nat) (p : Nat × Nat), moA[i]? = some p → i < j → sh (mb + 1 + i) = some (.inl (p.1, p.2, none)) ∧ V (mb + 1 + i) = fun _ => 0) ∧ ∀ a, a < mb → sh a = sh0 a ∧ V a = V0 a
theorem MI.next {sh0 : fl_S} {V0 : fl_V} {sh : fl_S} {V : fl_V} {mb j a l b : Nat} (h : MI sh0 V0 sh V mb j) (hj : j < 45) (hb : b = if j = 0 then 1 else j + 2) (hA : moA[j]? = some (a, l)) : MI sh0 V0 (va_up (va_up sh (mb + 1 + j) (some (.inl (a, l, none)))) mb (some (.inr (8, (moSl mb j).set b (some (some (mb + 1 + j))))))) (va_up V (mb + 1 + j) (fun _ => 0)) mb (j + 1) := by
  obtain ⟨h1, h2, h3, h4⟩ := h
  refine ⟨by rw [va_up_self, moSl_set hj hb], by rw [va_up_ne _ _ (by omega)]; exact h2, fun i p hp hi => ?_, fun x hx => ?_⟩
  · rw [va_up_ne _ _ (by omega)]
    by_cases q : i = j
    · subst q
      rw [hA] at hp
      cases hp
      rw [va_up_self, va_up_self]
      exact ⟨rfl, rfl⟩
    · rw [va_up_ne _ _ (by omega), va_up_ne _ _ (by omega)]
      exact h3 i p hp (by omega)
  · rw [va_up_ne _ _ (by omega), va_up_ne _ _ (by omega), va_up_ne _ _ (by omega)]
    exact h4 x hx
theorem moSl_45 (mb : Nat) {sh0 : fl_S} {V0 : fl_V} {sh : fl_S} {V : fl_V} (h : MI sh0 V0 sh V mb 45) : isMo sh mb := by
  obtain ⟨h1, h2, h3, h4⟩ := h
  refine ⟨h1, fun i p hp => (h3 i p hp ?_).1⟩
  have := (List.getElem?_eq_some_iff.mp hp).1
  simpa [moA] using this
def moV (V : fl_V) (mb : Nat) : fl_V := up2 (up2 (up2 (up2 (cpV V (mb + 19) 0 8 (fun _ => -1)) (mb + 29) 0 (nI 1)) (mb + 29) 1 (nI 1)) (mb + 30) 0 (nI 3)) (mb + 30) 1 (nI 3)
theorem moV_Mo {V : fl_V} {mb : Nat} {T : Nat → Nat} (hz : ∀ j, j < 46 → V (mb + j) = fun _ => 0) (hT : ∀ i, i < 2 → T i ≤ 2048) : Mo (moV V mb) mb T [] (fun _ => ho0) := by
  have z : ∀ j i, j < 46 → j ≠ 19 → j ≠ 29 → j ≠ 30 → moV V mb (mb + j) i = nI 0 := fun j i h1 h2 h3 h4 => by
    unfold moV
    rw [up2_o (by omega), up2_o (by omega), up2_o (by omega), up2_o (by omega), cpV_o (by omega), hz j h1]
    rfl
  have z0 : ∀ i, moV V mb mb i = nI 0 := fun i => z 0 i (by decide) (by decide) (by decide) (by decide)
  refine ⟨⟨z0 2, by simp, fun j b hj => by simp at hj⟩, fun h hh => ?_⟩
  have e29 : moV V mb (mb + 29) h = nI 1 := by
    unfold moV
    rw [up2_o (by omega), up2_o (by omega)]
    rcases (by omega : h = 0 ∨ h = 1) with rfl | rfl
    · rw [up2_i (by decide), up2_s]
    · rw [up2_s]
  have e30 : moV V mb (mb + 30) h = nI 3 := by
    unfold moV
    rcases (by omega : h = 0 ∨ h = 1) with rfl | rfl
    · rw [up2_i (by decide), up2_s]
    · rw [up2_s]
  have e19 : ∀ c, c < 8 → moV V mb (mb + 19) c = -1 := fun c hc => by
    unfold moV
    rw [up2_o (by omega), up2_o (by omega), up2_o (by omega), up2_o (by omega), cpV_s (by omega)]
  refine ⟨⟨e29, by simp [ho0], ⟨3, by decide, e30, rfl⟩, z 41 h (by decide) (by decide) (by decide) (by decide), z 42 h (by decide) (by decide) (by decide) (by decide), z 43 h (by decide) (by decide) (by decide) (by decide)⟩, fun s hs => ⟨z 2 _ (by decide) (by decide) (by decide) (by decide), z 3 _ (by decide) (by decide) (by decide) (by decide), z 4 _ (by decide) (by decide) (by decide) (by decide), z 5 _ (by decide) (by decide) (by decide) (by decide), by simp [ho0], by simp [ho0], by simp [ho0]⟩, ⟨z 34 _ (by decide) (by decide) (by decide) (by decide), by simp [ho0], fun p y hp => by simp [ho0] at hp⟩, ⟨0, z 25 _ (by decide) (by decide) (by decide) (by decide), z 26 _ (by decide) (by decide) (by decide) (by decide), by simp [ho0], hT h hh, fun q x hq => by simp [ho0] at hq⟩, ⟨z 31 _ (by decide) (by decide) (by decide) (by decide), z 32 _ (by decide) (by decide) (by decide) (by decide), by simp [ho0], by simp [ho0], fun j b hj => by simp [ho0] at hj⟩, ⟨z 39 _ (by decide) (by decide) (by decide) (by decide), by simp [ho0], fun j b hj => by simp [ho0] at hj⟩, fun k hk => ?_⟩
  refine ⟨fun q hq => ?_, fun q hq => ?_, e19 _ (by omega), z 15 _ (by decide) (by decide) (by decide) (by decide), by simp [ho0, ch0], fun t x ht => by simp [ho0, ch0] at ht, z 20 _ (by decide) (by decide) (by decide) (by decide), by simp [ho0, ch0], fun j b hj => by simp [ho0, ch0] at hj, z 22 _ (by decide) (by decide) (by decide) (by decide), by simp [ho0, ch0], fun t x ht => by simp [ho0, ch0] at ht⟩
  · simp [chO] at hq
    rcases hq with rfl | rfl | rfl | rfl | rfl | rfl | rfl | rfl | rfl | rfl <;> exact z _ _ (by decide) (by decide) (by decide) (by decide)
  · simp [chO] at hq
    rcases hq with rfl | rfl | rfl | rfl | rfl | rfl | rfl | rfl | rfl | rfl <;> simp [ho0, ch0, va_up]
section MINIT
variable {cy : Nat → ClassId} {z0 : Nat} {ext : Nat → Nat → List Value → ev_H → Nat → ev_P → Prop} {d : Nat} {sh : fl_S} {V : fl_V} {n mb : Nat} {T : Nat → Nat} {S : List Nat} {HH : Nat → Ho}
set_option maxRecDepth 100000 in
set_option maxHeartbeats 4000000 in
theorem m_mk_bipush {call : Nat → List Value → ev_H → Nat → ev_P → Prop} {oc mc ms nl : Nat} {rt : Option FieldType} {code : List ev_I} {Ret : ev_P} {L : List (Nat × Value)} {c sl : Nat} {pc pc1 pc2 pc3 pc4 j a l b : Nat} {q0 q1 q2 q3 len0 len1 len2 len3 a0 b0 a1 b1 b2 kf : Nat} {w0 w1 w2 w3 : Int32} {k : Int} {ty : ArrayType} {sh0 : fl_S} {V0 : fl_V} (hI : MI sh0 V0 sh V mb j) (hL : L = [(0, .ref (z0 + mb))]) (hj : j < 45) (hb : b = if j = 0 then 1 else j + 2) (hA : moA[j]? = some (a, l)) (hw : w1.toNatClampNeg = l) (ha : a < 3) (hty : ty ≠ .long) (h0 : ¬ w1 < 0) (hy : l * 8 ≤ 536870912) (hft : ∀ v, ev_fit (ev_ty 8 b) (.ref v))
    (x0 : ev_at code pc = some (q0, .aload_n 0, len0, a0, b0, w0)) (x0b : (b0 == 99) = false) (x0c : pc + len0 = pc1)
    (x1 : ev_at code pc1 = some (q1, .bipush k, len1, a1, b1, w1)) (x1b : (b1 == 99) = false) (x1c : pc1 + len1 = pc2)
    (x2 : ev_at code pc2 = some (q2, .newarray ty, len2, a, b2, w2)) (x2b : (b2 == 99) = false) (x2c : pc2 + len2 = pc3)
    (x3 : ev_at code pc3 = some (q3, .putfield kf, len3, 8, b, w3)) (x3b : (b == 99) = false) (x3c : pc3 + len3 = pc4)
    (hc : c + 1 ≤ mc) (hs : sl + l ≤ ms) (h : ∀ (sh' : fl_S) (V' : fl_V), MI sh0 V0 sh' V' mb (j + 1) → fl_R cy z0 call oc mc ms nl rt code Ret pc4 L [] sh' V' (mb + 1 + (j + 1)) (c + 1) (sl + l)) : fl_R cy z0 call oc mc ms nl rt code Ret pc L [] sh V (mb + 1 + j) c sl := by
  subst hL
  subst hw
  have l48 : b < (moSl mb j).length := by unfold moSl; rw [List.length_map, List.length_range]; split at hb <;> omega
  have s1 : va_up sh (mb + 1 + j) (some (.inl (a, w1.toNatClampNeg, none))) mb = some (.inr (8, moSl mb j)) := by rw [va_up_ne _ _ (by omega)]; exact hI.1
  refine fs_aload_n x0 x0b x0c rfl ?_
  refine fs_bipush x1 x1b x1c ?_
  refine fs_newi x2 x2b x2c ha h0 hc hs hy hty ?_
  refine fs_putr x3 x3b x3c s1 l48 (hft _) ?_
  exact h _ _ (hI.next hj hb hA)
set_option maxRecDepth 100000 in
set_option maxHeartbeats 4000000 in
theorem m_mk_sipush {call : Nat → List Value → ev_H → Nat → ev_P → Prop} {oc mc ms nl : Nat} {rt : Option FieldType} {code : List ev_I} {Ret : ev_P} {L : List (Nat × Value)} {c sl : Nat} {pc pc1 pc2 pc3 pc4 j a l b : Nat} {q0 q1 q2 q3 len0 len1 len2 len3 a0 b0 a1 b1 b2 kf : Nat} {w0 w1 w2 w3 : Int32} {k : Int} {ty : ArrayType} {sh0 : fl_S} {V0 : fl_V} (hI : MI sh0 V0 sh V mb j) (hL : L = [(0, .ref (z0 + mb))]) (hj : j < 45) (hb : b = if j = 0 then 1 else j + 2) (hA : moA[j]? = some (a, l)) (hw : w1.toNatClampNeg = l) (ha : a < 3) (hty : ty ≠ .long) (h0 : ¬ w1 < 0) (hy : l * 8 ≤ 536870912) (hft : ∀ v, ev_fit (ev_ty 8 b) (.ref v))
    (x0 : ev_at code pc = some (q0, .aload_n 0, len0, a0, b0, w0)) (x0b : (b0 == 99) = false) (x0c : pc + len0 = pc1)
    (x1 : ev_at code pc1 = some (q1, .sipush k, len1, a1, b1, w1)) (x1b : (b1 == 99) = false) (x1c : pc1 + len1 = pc2)
    (x2 : ev_at code pc2 = some (q2, .newarray ty, len2, a, b2, w2)) (x2b : (b2 == 99) = false) (x2c : pc2 + len2 = pc3)
    (x3 : ev_at code pc3 = some (q3, .putfield kf, len3, 8, b, w3)) (x3b : (b == 99) = false) (x3c : pc3 + len3 = pc4)
    (hc : c + 1 ≤ mc) (hs : sl + l ≤ ms) (h : ∀ (sh' : fl_S) (V' : fl_V), MI sh0 V0 sh' V' mb (j + 1) → fl_R cy z0 call oc mc ms nl rt code Ret pc4 L [] sh' V' (mb + 1 + (j + 1)) (c + 1) (sl + l)) : fl_R cy z0 call oc mc ms nl rt code Ret pc L [] sh V (mb + 1 + j) c sl := by
  subst hL
  subst hw
  have l48 : b < (moSl mb j).length := by unfold moSl; rw [List.length_map, List.length_range]; split at hb <;> omega
  have s1 : va_up sh (mb + 1 + j) (some (.inl (a, w1.toNatClampNeg, none))) mb = some (.inr (8, moSl mb j)) := by rw [va_up_ne _ _ (by omega)]; exact hI.1
  refine fs_aload_n x0 x0b x0c rfl ?_
  refine fs_sipush x1 x1b x1c ?_
  refine fs_newi x2 x2b x2c ha h0 hc hs hy hty ?_
  refine fs_putr x3 x3b x3c s1 l48 (hft _) ?_
  exact h _ _ (hI.next hj hb hA)
set_option maxRecDepth 100000 in
set_option maxHeartbeats 4000000 in
theorem m_mk_iconst {call : Nat → List Value → ev_H → Nat → ev_P → Prop} {oc mc ms nl : Nat} {rt : Option FieldType} {code : List ev_I} {Ret : ev_P} {L : List (Nat × Value)} {c sl : Nat} {pc pc1 pc2 pc3 pc4 j a l b : Nat} {q0 q1 q2 q3 len0 len1 len2 len3 a0 b0 a1 b1 b2 kf : Nat} {w0 w1 w2 w3 : Int32} {k : Int} {ty : ArrayType} {sh0 : fl_S} {V0 : fl_V} (hI : MI sh0 V0 sh V mb j) (hL : L = [(0, .ref (z0 + mb))]) (hj : j < 45) (hb : b = if j = 0 then 1 else j + 2) (hA : moA[j]? = some (a, l)) (hw : w1.toNatClampNeg = l) (ha : a < 3) (hty : ty ≠ .long) (h0 : ¬ w1 < 0) (hy : l * 8 ≤ 536870912) (hft : ∀ v, ev_fit (ev_ty 8 b) (.ref v))
    (x0 : ev_at code pc = some (q0, .aload_n 0, len0, a0, b0, w0)) (x0b : (b0 == 99) = false) (x0c : pc + len0 = pc1)
    (x1 : ev_at code pc1 = some (q1, .iconst k, len1, a1, b1, w1)) (x1b : (b1 == 99) = false) (x1c : pc1 + len1 = pc2)
    (x2 : ev_at code pc2 = some (q2, .newarray ty, len2, a, b2, w2)) (x2b : (b2 == 99) = false) (x2c : pc2 + len2 = pc3)
    (x3 : ev_at code pc3 = some (q3, .putfield kf, len3, 8, b, w3)) (x3b : (b == 99) = false) (x3c : pc3 + len3 = pc4)
    (hc : c + 1 ≤ mc) (hs : sl + l ≤ ms) (h : ∀ (sh' : fl_S) (V' : fl_V), MI sh0 V0 sh' V' mb (j + 1) → fl_R cy z0 call oc mc ms nl rt code Ret pc4 L [] sh' V' (mb + 1 + (j + 1)) (c + 1) (sl + l)) : fl_R cy z0 call oc mc ms nl rt code Ret pc L [] sh V (mb + 1 + j) c sl := by
  subst hL
  subst hw
  have l48 : b < (moSl mb j).length := by unfold moSl; rw [List.length_map, List.length_range]; split at hb <;> omega
  have s1 : va_up sh (mb + 1 + j) (some (.inl (a, w1.toNatClampNeg, none))) mb = some (.inr (8, moSl mb j)) := by rw [va_up_ne _ _ (by omega)]; exact hI.1
  refine fs_aload_n x0 x0b x0c rfl ?_
  refine fs_iconst x1 x1b x1c ?_
  refine fs_newi x2 x2b x2c ha h0 hc hs hy hty ?_
  refine fs_putr x3 x3b x3c s1 l48 (hft _) ?_
  exact h _ _ (hI.next hj hb hA)
set_option maxRecDepth 100000 in
set_option maxHeartbeats 4000000 in
theorem m_mk_ldc {call : Nat → List Value → ev_H → Nat → ev_P → Prop} {oc mc ms nl : Nat} {rt : Option FieldType} {code : List ev_I} {Ret : ev_P} {L : List (Nat × Value)} {c sl : Nat} {pc pc1 pc2 pc3 pc4 j a l b : Nat} {q0 q1 q2 q3 len0 len1 len2 len3 a0 b0 a1 b1 b2 kf : Nat} {w0 w1 w2 w3 : Int32} {k : Nat} {ty : ArrayType} {sh0 : fl_S} {V0 : fl_V} (hI : MI sh0 V0 sh V mb j) (hL : L = [(0, .ref (z0 + mb))]) (hj : j < 45) (hb : b = if j = 0 then 1 else j + 2) (hA : moA[j]? = some (a, l)) (hw : w1.toNatClampNeg = l) (ha : a < 3) (hty : ty ≠ .long) (h0 : ¬ w1 < 0) (hy : l * 8 ≤ 536870912) (hft : ∀ v, ev_fit (ev_ty 8 b) (.ref v))
    (x0 : ev_at code pc = some (q0, .aload_n 0, len0, a0, b0, w0)) (x0b : (b0 == 99) = false) (x0c : pc + len0 = pc1)
    (x1 : ev_at code pc1 = some (q1, .ldc k, len1, a1, b1, w1)) (x1b : (b1 == 99) = false) (x1c : pc1 + len1 = pc2)
    (x2 : ev_at code pc2 = some (q2, .newarray ty, len2, a, b2, w2)) (x2b : (b2 == 99) = false) (x2c : pc2 + len2 = pc3)
    (x3 : ev_at code pc3 = some (q3, .putfield kf, len3, 8, b, w3)) (x3b : (b == 99) = false) (x3c : pc3 + len3 = pc4)
    (hc : c + 1 ≤ mc) (hs : sl + l ≤ ms) (h : ∀ (sh' : fl_S) (V' : fl_V), MI sh0 V0 sh' V' mb (j + 1) → fl_R cy z0 call oc mc ms nl rt code Ret pc4 L [] sh' V' (mb + 1 + (j + 1)) (c + 1) (sl + l)) : fl_R cy z0 call oc mc ms nl rt code Ret pc L [] sh V (mb + 1 + j) c sl := by
  subst hL
  subst hw
  have l48 : b < (moSl mb j).length := by unfold moSl; rw [List.length_map, List.length_range]; split at hb <;> omega
  have s1 : va_up sh (mb + 1 + j) (some (.inl (a, w1.toNatClampNeg, none))) mb = some (.inr (8, moSl mb j)) := by rw [va_up_ne _ _ (by omega)]; exact hI.1
  refine fs_aload_n x0 x0b x0c rfl ?_
  refine fs_ldc x1 x1b x1c ?_
  refine fs_newi x2 x2b x2c ha h0 hc hs hy hty ?_
  refine fs_putr x3 x3b x3c s1 l48 (hft _) ?_
  exact h _ _ (hI.next hj hb hA)
set_option maxRecDepth 100000 in
set_option maxHeartbeats 4000000 in
theorem m_init (hs : sh mb = some (.inr (8, moSl mb 0))) (hv : V mb = fun _ => 0) (hn : n = mb + 1) (hT : ∀ i, i < 2 → T i ≤ 2048) : fl_M cy z0 ext (d + 2) m_X7_init [.ref (z0 + mb)] sh V n (fun v sh' V' n' => v = none ∧ n' = mb + 46 ∧ isMo sh' mb ∧ Mo V' mb T [] (fun _ => ho0) ∧ ∀ a, a < mb → sh' a = sh a ∧ V' a = V a) := by
  subst hn
  have I0 : MI sh V sh V mb 0 := ⟨hs, hv, fun i p _ h => absurd h (by omega), fun a _ => ⟨rfl, rfl⟩⟩
  refine fs_body rfl rfl (fun Ret hP => ?_)
  refine fs_aload_n (pc2 := 1) rfl rfl rfl rfl ?_
  refine fs_objinit (pc2 := 4) rfl rfl rfl rfl (Nat.le_of_ble_eq_true rfl) ?_
  refine m_mk_bipush (j := 0) (l := 120) (pc1 := 5) (pc2 := 7) (pc3 := 9) (pc4 := 12) I0 rfl (by decide) rfl rfl rfl (by decide) (fun q => by cases q) (by decide) (by decide) (fun _ => True.intro) rfl rfl rfl rfl rfl rfl rfl rfl rfl rfl rfl rfl (Nat.le_of_ble_eq_true rfl) (Nat.le_of_ble_eq_true rfl) (fun sh1 V1 I1 => ?_)
  refine m_mk_bipush (j := 1) (l := 20) (pc1 := 13) (pc2 := 15) (pc3 := 17) (pc4 := 20) I1 rfl (by decide) rfl rfl rfl (by decide) (fun q => by cases q) (by decide) (by decide) (fun _ => True.intro) rfl rfl rfl rfl rfl rfl rfl rfl rfl rfl rfl rfl (Nat.le_of_ble_eq_true rfl) (Nat.le_of_ble_eq_true rfl) (fun sh2 V2 I2 => ?_)
  refine m_mk_bipush (j := 2) (l := 20) (pc1 := 21) (pc2 := 23) (pc3 := 25) (pc4 := 28) I2 rfl (by decide) rfl rfl rfl (by decide) (fun q => by cases q) (by decide) (by decide) (fun _ => True.intro) rfl rfl rfl rfl rfl rfl rfl rfl rfl rfl rfl rfl (Nat.le_of_ble_eq_true rfl) (Nat.le_of_ble_eq_true rfl) (fun sh3 V3 I3 => ?_)
  refine m_mk_bipush (j := 3) (l := 20) (pc1 := 29) (pc2 := 31) (pc3 := 33) (pc4 := 36) I3 rfl (by decide) rfl rfl rfl (by decide) (fun q => by cases q) (by decide) (by decide) (fun _ => True.intro) rfl rfl rfl rfl rfl rfl rfl rfl rfl rfl rfl rfl (Nat.le_of_ble_eq_true rfl) (Nat.le_of_ble_eq_true rfl) (fun sh4 V4 I4 => ?_)
  refine m_mk_bipush (j := 4) (l := 20) (pc1 := 37) (pc2 := 39) (pc3 := 41) (pc4 := 44) I4 rfl (by decide) rfl rfl rfl (by decide) (fun q => by cases q) (by decide) (by decide) (fun _ => True.intro) rfl rfl rfl rfl rfl rfl rfl rfl rfl rfl rfl rfl (Nat.le_of_ble_eq_true rfl) (Nat.le_of_ble_eq_true rfl) (fun sh5 V5 I5 => ?_)
  refine m_mk_bipush (j := 5) (l := 8) (pc1 := 45) (pc2 := 47) (pc3 := 49) (pc4 := 52) I5 rfl (by decide) rfl rfl rfl (by decide) (fun q => by cases q) (by decide) (by decide) (fun _ => True.intro) rfl rfl rfl rfl rfl rfl rfl rfl rfl rfl rfl rfl (Nat.le_of_ble_eq_true rfl) (Nat.le_of_ble_eq_true rfl) (fun sh6 V6 I6 => ?_)
  refine m_mk_bipush (j := 6) (l := 8) (pc1 := 53) (pc2 := 55) (pc3 := 57) (pc4 := 60) I6 rfl (by decide) rfl rfl rfl (by decide) (fun q => by cases q) (by decide) (by decide) (fun _ => True.intro) rfl rfl rfl rfl rfl rfl rfl rfl rfl rfl rfl rfl (Nat.le_of_ble_eq_true rfl) (Nat.le_of_ble_eq_true rfl) (fun sh7 V7 I7 => ?_)
  refine m_mk_bipush (j := 7) (l := 8) (pc1 := 61) (pc2 := 63) (pc3 := 65) (pc4 := 68) I7 rfl (by decide) rfl rfl rfl (by decide) (fun q => by cases q) (by decide) (by decide) (fun _ => True.intro) rfl rfl rfl rfl rfl rfl rfl rfl rfl rfl rfl rfl (Nat.le_of_ble_eq_true rfl) (Nat.le_of_ble_eq_true rfl) (fun sh8 V8 I8 => ?_)
  refine m_mk_bipush (j := 8) (l := 8) (pc1 := 69) (pc2 := 71) (pc3 := 73) (pc4 := 76) I8 rfl (by decide) rfl rfl rfl (by decide) (fun q => by cases q) (by decide) (by decide) (fun _ => True.intro) rfl rfl rfl rfl rfl rfl rfl rfl rfl rfl rfl rfl (Nat.le_of_ble_eq_true rfl) (Nat.le_of_ble_eq_true rfl) (fun sh9 V9 I9 => ?_)
  refine m_mk_bipush (j := 9) (l := 8) (pc1 := 77) (pc2 := 79) (pc3 := 81) (pc4 := 84) I9 rfl (by decide) rfl rfl rfl (by decide) (fun q => by cases q) (by decide) (by decide) (fun _ => True.intro) rfl rfl rfl rfl rfl rfl rfl rfl rfl rfl rfl rfl (Nat.le_of_ble_eq_true rfl) (Nat.le_of_ble_eq_true rfl) (fun sh10 V10 I10 => ?_)
  refine m_mk_bipush (j := 10) (l := 8) (pc1 := 85) (pc2 := 87) (pc3 := 89) (pc4 := 92) I10 rfl (by decide) rfl rfl rfl (by decide) (fun q => by cases q) (by decide) (by decide) (fun _ => True.intro) rfl rfl rfl rfl rfl rfl rfl rfl rfl rfl rfl rfl (Nat.le_of_ble_eq_true rfl) (Nat.le_of_ble_eq_true rfl) (fun sh11 V11 I11 => ?_)
  refine m_mk_bipush (j := 11) (l := 8) (pc1 := 93) (pc2 := 95) (pc3 := 97) (pc4 := 100) I11 rfl (by decide) rfl rfl rfl (by decide) (fun q => by cases q) (by decide) (by decide) (fun _ => True.intro) rfl rfl rfl rfl rfl rfl rfl rfl rfl rfl rfl rfl (Nat.le_of_ble_eq_true rfl) (Nat.le_of_ble_eq_true rfl) (fun sh12 V12 I12 => ?_)
  refine m_mk_bipush (j := 12) (l := 8) (pc1 := 101) (pc2 := 103) (pc3 := 105) (pc4 := 108) I12 rfl (by decide) rfl rfl rfl (by decide) (fun q => by cases q) (by decide) (by decide) (fun _ => True.intro) rfl rfl rfl rfl rfl rfl rfl rfl rfl rfl rfl rfl (Nat.le_of_ble_eq_true rfl) (Nat.le_of_ble_eq_true rfl) (fun sh13 V13 I13 => ?_)
  refine m_mk_bipush (j := 13) (l := 8) (pc1 := 109) (pc2 := 111) (pc3 := 113) (pc4 := 116) I13 rfl (by decide) rfl rfl rfl (by decide) (fun q => by cases q) (by decide) (by decide) (fun _ => True.intro) rfl rfl rfl rfl rfl rfl rfl rfl rfl rfl rfl rfl (Nat.le_of_ble_eq_true rfl) (Nat.le_of_ble_eq_true rfl) (fun sh14 V14 I14 => ?_)
  refine m_mk_bipush (j := 14) (l := 8) (pc1 := 117) (pc2 := 119) (pc3 := 121) (pc4 := 124) I14 rfl (by decide) rfl rfl rfl (by decide) (fun q => by cases q) (by decide) (by decide) (fun _ => True.intro) rfl rfl rfl rfl rfl rfl rfl rfl rfl rfl rfl rfl (Nat.le_of_ble_eq_true rfl) (Nat.le_of_ble_eq_true rfl) (fun sh15 V15 I15 => ?_)
  refine m_mk_bipush (j := 15) (l := 16) (pc1 := 125) (pc2 := 127) (pc3 := 129) (pc4 := 132) I15 rfl (by decide) rfl rfl rfl (by decide) (fun q => by cases q) (by decide) (by decide) (fun _ => True.intro) rfl rfl rfl rfl rfl rfl rfl rfl rfl rfl rfl rfl (Nat.le_of_ble_eq_true rfl) (Nat.le_of_ble_eq_true rfl) (fun sh16 V16 I16 => ?_)
  refine m_mk_sipush (j := 16) (l := 1920) (pc1 := 133) (pc2 := 136) (pc3 := 138) (pc4 := 141) I16 rfl (by decide) rfl rfl rfl (by decide) (fun q => by cases q) (by decide) (by decide) (fun _ => True.intro) rfl rfl rfl rfl rfl rfl rfl rfl rfl rfl rfl rfl (Nat.le_of_ble_eq_true rfl) (Nat.le_of_ble_eq_true rfl) (fun sh17 V17 I17 => ?_)
  refine m_mk_bipush (j := 17) (l := 8) (pc1 := 142) (pc2 := 144) (pc3 := 146) (pc4 := 149) I17 rfl (by decide) rfl rfl rfl (by decide) (fun q => by cases q) (by decide) (by decide) (fun _ => True.intro) rfl rfl rfl rfl rfl rfl rfl rfl rfl rfl rfl rfl (Nat.le_of_ble_eq_true rfl) (Nat.le_of_ble_eq_true rfl) (fun sh18 V18 I18 => ?_)
  refine m_mk_bipush (j := 18) (l := 8) (pc1 := 150) (pc2 := 152) (pc3 := 154) (pc4 := 157) I18 rfl (by decide) rfl rfl rfl (by decide) (fun q => by cases q) (by decide) (by decide) (fun _ => True.intro) rfl rfl rfl rfl rfl rfl rfl rfl rfl rfl rfl rfl (Nat.le_of_ble_eq_true rfl) (Nat.le_of_ble_eq_true rfl) (fun sh19 V19 I19 => ?_)
  refine m_mk_bipush (j := 19) (l := 8) (pc1 := 158) (pc2 := 160) (pc3 := 162) (pc4 := 165) I19 rfl (by decide) rfl rfl rfl (by decide) (fun q => by cases q) (by decide) (by decide) (fun _ => True.intro) rfl rfl rfl rfl rfl rfl rfl rfl rfl rfl rfl rfl (Nat.le_of_ble_eq_true rfl) (Nat.le_of_ble_eq_true rfl) (fun sh20 V20 I20 => ?_)
  refine m_mk_sipush (j := 20) (l := 1024) (pc1 := 166) (pc2 := 169) (pc3 := 171) (pc4 := 174) I20 rfl (by decide) rfl rfl rfl (by decide) (fun q => by cases q) (by decide) (by decide) (fun _ => True.intro) rfl rfl rfl rfl rfl rfl rfl rfl rfl rfl rfl rfl (Nat.le_of_ble_eq_true rfl) (Nat.le_of_ble_eq_true rfl) (fun sh21 V21 I21 => ?_)
  refine m_mk_bipush (j := 21) (l := 8) (pc1 := 175) (pc2 := 177) (pc3 := 179) (pc4 := 182) I21 rfl (by decide) rfl rfl rfl (by decide) (fun q => by cases q) (by decide) (by decide) (fun _ => True.intro) rfl rfl rfl rfl rfl rfl rfl rfl rfl rfl rfl rfl (Nat.le_of_ble_eq_true rfl) (Nat.le_of_ble_eq_true rfl) (fun sh22 V22 I22 => ?_)
  refine m_mk_bipush (j := 22) (l := 32) (pc1 := 183) (pc2 := 185) (pc3 := 187) (pc4 := 190) I22 rfl (by decide) rfl rfl rfl (by decide) (fun q => by cases q) (by decide) (by decide) (fun _ => True.intro) rfl rfl rfl rfl rfl rfl rfl rfl rfl rfl rfl rfl (Nat.le_of_ble_eq_true rfl) (Nat.le_of_ble_eq_true rfl) (fun sh23 V23 I23 => ?_)
  refine m_mk_sipush (j := 23) (l := 4096) (pc1 := 191) (pc2 := 194) (pc3 := 196) (pc4 := 199) I23 rfl (by decide) rfl rfl rfl (by decide) (fun q => by cases q) (by decide) (by decide) (fun _ => True.intro) rfl rfl rfl rfl rfl rfl rfl rfl rfl rfl rfl rfl (Nat.le_of_ble_eq_true rfl) (Nat.le_of_ble_eq_true rfl) (fun sh24 V24 I24 => ?_)
  refine m_mk_iconst (j := 24) (l := 2) (pc1 := 200) (pc2 := 201) (pc3 := 203) (pc4 := 206) I24 rfl (by decide) rfl rfl rfl (by decide) (fun q => by cases q) (by decide) (by decide) (fun _ => True.intro) rfl rfl rfl rfl rfl rfl rfl rfl rfl rfl rfl rfl (Nat.le_of_ble_eq_true rfl) (Nat.le_of_ble_eq_true rfl) (fun sh25 V25 I25 => ?_)
  refine m_mk_iconst (j := 25) (l := 2) (pc1 := 207) (pc2 := 208) (pc3 := 210) (pc4 := 213) I25 rfl (by decide) rfl rfl rfl (by decide) (fun q => by cases q) (by decide) (by decide) (fun _ => True.intro) rfl rfl rfl rfl rfl rfl rfl rfl rfl rfl rfl rfl (Nat.le_of_ble_eq_true rfl) (Nat.le_of_ble_eq_true rfl) (fun sh26 V26 I26 => ?_)
  refine m_mk_sipush (j := 26) (l := 4096) (pc1 := 214) (pc2 := 217) (pc3 := 219) (pc4 := 222) I26 rfl (by decide) rfl rfl rfl (by decide) (fun q => by cases q) (by decide) (by decide) (fun _ => True.intro) rfl rfl rfl rfl rfl rfl rfl rfl rfl rfl rfl rfl (Nat.le_of_ble_eq_true rfl) (Nat.le_of_ble_eq_true rfl) (fun sh27 V27 I27 => ?_)
  refine m_mk_ldc (j := 27) (l := 57344) (pc1 := 223) (pc2 := 225) (pc3 := 227) (pc4 := 230) I27 rfl (by decide) rfl rfl rfl (by decide) (fun q => by cases q) (by decide) (by decide) (fun _ => True.intro) rfl rfl rfl rfl rfl rfl rfl rfl rfl rfl rfl rfl (Nat.le_of_ble_eq_true rfl) (Nat.le_of_ble_eq_true rfl) (fun sh28 V28 I28 => ?_)
  refine m_mk_iconst (j := 28) (l := 2) (pc1 := 231) (pc2 := 232) (pc3 := 234) (pc4 := 237) I28 rfl (by decide) rfl rfl rfl (by decide) (fun q => by cases q) (by decide) (by decide) (fun _ => True.intro) rfl rfl rfl rfl rfl rfl rfl rfl rfl rfl rfl rfl (Nat.le_of_ble_eq_true rfl) (Nat.le_of_ble_eq_true rfl) (fun sh29 V29 I29 => ?_)
  refine m_mk_iconst (j := 29) (l := 2) (pc1 := 238) (pc2 := 239) (pc3 := 241) (pc4 := 244) I29 rfl (by decide) rfl rfl rfl (by decide) (fun q => by cases q) (by decide) (by decide) (fun _ => True.intro) rfl rfl rfl rfl rfl rfl rfl rfl rfl rfl rfl rfl (Nat.le_of_ble_eq_true rfl) (Nat.le_of_ble_eq_true rfl) (fun sh30 V30 I30 => ?_)
  refine m_mk_iconst (j := 30) (l := 2) (pc1 := 245) (pc2 := 246) (pc3 := 248) (pc4 := 251) I30 rfl (by decide) rfl rfl rfl (by decide) (fun q => by cases q) (by decide) (by decide) (fun _ => True.intro) rfl rfl rfl rfl rfl rfl rfl rfl rfl rfl rfl rfl (Nat.le_of_ble_eq_true rfl) (Nat.le_of_ble_eq_true rfl) (fun sh31 V31 I31 => ?_)
  refine m_mk_iconst (j := 31) (l := 2) (pc1 := 252) (pc2 := 253) (pc3 := 255) (pc4 := 258) I31 rfl (by decide) rfl rfl rfl (by decide) (fun q => by cases q) (by decide) (by decide) (fun _ => True.intro) rfl rfl rfl rfl rfl rfl rfl rfl rfl rfl rfl rfl (Nat.le_of_ble_eq_true rfl) (Nat.le_of_ble_eq_true rfl) (fun sh32 V32 I32 => ?_)
  refine m_mk_sipush (j := 32) (l := 320) (pc1 := 259) (pc2 := 262) (pc3 := 264) (pc4 := 267) I32 rfl (by decide) rfl rfl rfl (by decide) (fun q => by cases q) (by decide) (by decide) (fun _ => True.intro) rfl rfl rfl rfl rfl rfl rfl rfl rfl rfl rfl rfl (Nat.le_of_ble_eq_true rfl) (Nat.le_of_ble_eq_true rfl) (fun sh33 V33 I33 => ?_)
  refine m_mk_iconst (j := 33) (l := 2) (pc1 := 268) (pc2 := 269) (pc3 := 271) (pc4 := 274) I33 rfl (by decide) rfl rfl rfl (by decide) (fun q => by cases q) (by decide) (by decide) (fun _ => True.intro) rfl rfl rfl rfl rfl rfl rfl rfl rfl rfl rfl rfl (Nat.le_of_ble_eq_true rfl) (Nat.le_of_ble_eq_true rfl) (fun sh34 V34 I34 => ?_)
  refine m_mk_bipush (j := 34) (l := 64) (pc1 := 275) (pc2 := 277) (pc3 := 279) (pc4 := 282) I34 rfl (by decide) rfl rfl rfl (by decide) (fun q => by cases q) (by decide) (by decide) (fun _ => True.intro) rfl rfl rfl rfl rfl rfl rfl rfl rfl rfl rfl rfl (Nat.le_of_ble_eq_true rfl) (Nat.le_of_ble_eq_true rfl) (fun sh35 V35 I35 => ?_)
  refine m_mk_bipush (j := 35) (l := 64) (pc1 := 283) (pc2 := 285) (pc3 := 287) (pc4 := 290) I35 rfl (by decide) rfl rfl rfl (by decide) (fun q => by cases q) (by decide) (by decide) (fun _ => True.intro) rfl rfl rfl rfl rfl rfl rfl rfl rfl rfl rfl rfl (Nat.le_of_ble_eq_true rfl) (Nat.le_of_ble_eq_true rfl) (fun sh36 V36 I36 => ?_)
  refine m_mk_bipush (j := 36) (l := 64) (pc1 := 291) (pc2 := 293) (pc3 := 295) (pc4 := 298) I36 rfl (by decide) rfl rfl rfl (by decide) (fun q => by cases q) (by decide) (by decide) (fun _ => True.intro) rfl rfl rfl rfl rfl rfl rfl rfl rfl rfl rfl rfl (Nat.le_of_ble_eq_true rfl) (Nat.le_of_ble_eq_true rfl) (fun sh37 V37 I37 => ?_)
  refine m_mk_sipush (j := 37) (l := 1728) (pc1 := 299) (pc2 := 302) (pc3 := 304) (pc4 := 307) I37 rfl (by decide) rfl rfl rfl (by decide) (fun q => by cases q) (by decide) (by decide) (fun _ => True.intro) rfl rfl rfl rfl rfl rfl rfl rfl rfl rfl rfl rfl (Nat.le_of_ble_eq_true rfl) (Nat.le_of_ble_eq_true rfl) (fun sh38 V38 I38 => ?_)
  refine m_mk_iconst (j := 38) (l := 2) (pc1 := 308) (pc2 := 309) (pc3 := 311) (pc4 := 314) I38 rfl (by decide) rfl rfl rfl (by decide) (fun q => by cases q) (by decide) (by decide) (fun _ => True.intro) rfl rfl rfl rfl rfl rfl rfl rfl rfl rfl rfl rfl (Nat.le_of_ble_eq_true rfl) (Nat.le_of_ble_eq_true rfl) (fun sh39 V39 I39 => ?_)
  refine m_mk_sipush (j := 39) (l := 320) (pc1 := 315) (pc2 := 318) (pc3 := 320) (pc4 := 323) I39 rfl (by decide) rfl rfl rfl (by decide) (fun q => by cases q) (by decide) (by decide) (fun _ => True.intro) rfl rfl rfl rfl rfl rfl rfl rfl rfl rfl rfl rfl (Nat.le_of_ble_eq_true rfl) (Nat.le_of_ble_eq_true rfl) (fun sh40 V40 I40 => ?_)
  refine m_mk_iconst (j := 40) (l := 2) (pc1 := 324) (pc2 := 325) (pc3 := 327) (pc4 := 330) I40 rfl (by decide) rfl rfl rfl (by decide) (fun q => by cases q) (by decide) (by decide) (fun _ => True.intro) rfl rfl rfl rfl rfl rfl rfl rfl rfl rfl rfl rfl (Nat.le_of_ble_eq_true rfl) (Nat.le_of_ble_eq_true rfl) (fun sh41 V41 I41 => ?_)
  refine m_mk_iconst (j := 41) (l := 2) (pc1 := 331) (pc2 := 332) (pc3 := 334) (pc4 := 337) I41 rfl (by decide) rfl rfl rfl (by decide) (fun q => by cases q) (by decide) (by decide) (fun _ => True.intro) rfl rfl rfl rfl rfl rfl rfl rfl rfl rfl rfl rfl (Nat.le_of_ble_eq_true rfl) (Nat.le_of_ble_eq_true rfl) (fun sh42 V42 I42 => ?_)
  refine m_mk_iconst (j := 42) (l := 2) (pc1 := 338) (pc2 := 339) (pc3 := 341) (pc4 := 344) I42 rfl (by decide) rfl rfl rfl (by decide) (fun q => by cases q) (by decide) (by decide) (fun _ => True.intro) rfl rfl rfl rfl rfl rfl rfl rfl rfl rfl rfl rfl (Nat.le_of_ble_eq_true rfl) (Nat.le_of_ble_eq_true rfl) (fun sh43 V43 I43 => ?_)
  refine m_mk_bipush (j := 43) (l := 32) (pc1 := 345) (pc2 := 347) (pc3 := 349) (pc4 := 352) I43 rfl (by decide) rfl rfl rfl (by decide) (fun q => by cases q) (by decide) (by decide) (fun _ => True.intro) rfl rfl rfl rfl rfl rfl rfl rfl rfl rfl rfl rfl (Nat.le_of_ble_eq_true rfl) (Nat.le_of_ble_eq_true rfl) (fun sh44 V44 I44 => ?_)
  refine m_mk_bipush (j := 44) (l := 16) (pc1 := 353) (pc2 := 355) (pc3 := 357) (pc4 := 360) I44 rfl (by decide) rfl rfl rfl (by decide) (fun q => by cases q) (by decide) (by decide) (fun _ => True.intro) rfl rfl rfl rfl rfl rfl rfl rfl rfl rfl rfl rfl (Nat.le_of_ble_eq_true rfl) (Nat.le_of_ble_eq_true rfl) (fun sh45 V45 I45 => ?_)
  have hm := moSl_45 mb I45
  have hz : ∀ j, j < 46 → V45 (mb + j) = fun _ => 0 := by
    intro j hj
    by_cases q : j = 0
    · subst q; exact I45.2.1
    · have h1 : j - 1 < moA.length := by show j - 1 < 45; omega
      have := (I45.2.2.1 (j - 1) _ (List.getElem?_eq_getElem h1) (by omega)).2
      rwa [show mb + 1 + (j - 1) = mb + j by omega] at this
  have a19 : sh45 (mb + 19) = some (.inl (1, 8, none)) := hm.2 18 (1, 8) rfl
  have a29 : sh45 (mb + 29) = some (.inl (1, 2, none)) := hm.2 28 (1, 2) rfl
  have a30 : sh45 (mb + 30) = some (.inl (1, 2, none)) := hm.2 29 (1, 2) rfl
  have m0 := hm.1
  have loop : ∀ (cc ss : Nat) j i, i + j = 8 → fl_R cy z0 (ev_M cy ext (d + 1)) 7 48 80000 2 none kc_X7_init Ret 362 [(0, .ref (z0 + mb)), (1, .int (nI i))] [] sh45 (cpV V45 (mb + 19) 0 i (fun _ => -1)) (mb + 46) cc ss := by
    intro cc ss j
    induction j with
    | zero =>
      intro i hi
      have hi2 : i = 8 := by omega
      subst hi2
      refine fs_iload_n (pc2 := 363) rfl rfl rfl rfl ?_
      refine fs_bipush (pc2 := 365) rfl rfl rfl ?_
      try simp (disch := omega) only [nI_lit, pk_mul, nI_add, pk_sub, pk_rem4, nI_clamp, up2_o, up2_s, up2_i, cpV_o, cpV_i]
      refine fs_icmp_ge (pc2 := 368) rfl rfl rfl (fun h365 => ?_) (fun h365 => ?_)
      · refine fs_aload_n (pc2 := 382) rfl rfl rfl rfl ?_
        refine fs_getr (pc2 := 385) rfl rfl rfl (by assumption) rfl ?_
        refine fs_iconst (pc2 := 386) rfl rfl rfl ?_
        refine fs_iconst (pc2 := 387) rfl rfl rfl ?_
        try simp (disch := omega) only [nI_lit, pk_mul, nI_add, pk_sub, pk_rem4, nI_clamp, up2_o, up2_s, up2_i, cpV_o, cpV_i]
        refine fs_iast (pc2 := 388) rfl rfl rfl (by assumption) (by first | exact vp_in_nI (by omega) (by decide) | decide) ?_
        refine fs_aload_n (pc2 := 389) rfl rfl rfl rfl ?_
        refine fs_getr (pc2 := 392) rfl rfl rfl (by assumption) rfl ?_
        refine fs_iconst (pc2 := 393) rfl rfl rfl ?_
        refine fs_iconst (pc2 := 394) rfl rfl rfl ?_
        try simp (disch := omega) only [nI_lit, pk_mul, nI_add, pk_sub, pk_rem4, nI_clamp, up2_o, up2_s, up2_i, cpV_o, cpV_i]
        refine fs_iast (pc2 := 395) rfl rfl rfl (by assumption) (by first | exact vp_in_nI (by omega) (by decide) | decide) ?_
        refine fs_aload_n (pc2 := 396) rfl rfl rfl rfl ?_
        refine fs_getr (pc2 := 399) rfl rfl rfl (by assumption) rfl ?_
        refine fs_iconst (pc2 := 400) rfl rfl rfl ?_
        refine fs_iconst (pc2 := 401) rfl rfl rfl ?_
        try simp (disch := omega) only [nI_lit, pk_mul, nI_add, pk_sub, pk_rem4, nI_clamp, up2_o, up2_s, up2_i, cpV_o, cpV_i]
        refine fs_iast (pc2 := 402) rfl rfl rfl (by assumption) (by first | exact vp_in_nI (by omega) (by decide) | decide) ?_
        refine fs_aload_n (pc2 := 403) rfl rfl rfl rfl ?_
        refine fs_getr (pc2 := 406) rfl rfl rfl (by assumption) rfl ?_
        refine fs_iconst (pc2 := 407) rfl rfl rfl ?_
        refine fs_iconst (pc2 := 408) rfl rfl rfl ?_
        try simp (disch := omega) only [nI_lit, pk_mul, nI_add, pk_sub, pk_rem4, nI_clamp, up2_o, up2_s, up2_i, cpV_o, cpV_i]
        refine fs_iast (pc2 := 409) rfl rfl rfl (by assumption) (by first | exact vp_in_nI (by omega) (by decide) | decide) ?_
        try simp (disch := omega) only [nI_lit, pk_mul, nI_add, pk_sub, pk_rem4, nI_clamp, up2_o, up2_s, up2_i, cpV_o, cpV_i]
        refine fs_ret rfl rfl ?_
        refine hP _ _ _ _ ⟨rfl, rfl, hm, moV_Mo (V := V45) hz hT, fun a ha => ⟨(I45.2.2.2 a ha).1, ?_⟩⟩
        rw [up2_o (by omega), up2_o (by omega), up2_o (by omega), up2_o (by omega), cpV_o (by omega)]
        exact (I45.2.2.2 a ha).2
      · exact absurd h365 (by decide)
    | succ j ih =>
      intro i hi
      refine fs_iload_n (pc2 := 363) rfl rfl rfl rfl ?_
      refine fs_bipush (pc2 := 365) rfl rfl rfl ?_
      try simp (disch := omega) only [nI_lit, pk_mul, nI_add, pk_sub, pk_rem4, nI_clamp, up2_o, up2_s, up2_i, cpV_o, cpV_i]
      refine fs_icmp_ge (pc2 := 368) rfl rfl rfl (fun h365 => ?_) (fun h365 => ?_)
      · exact absurd (nI_lt (a := i) (b := 8) (by omega) (by decide)) h365
      · refine fs_aload_n (pc2 := 369) rfl rfl rfl rfl ?_
        refine fs_getr (pc2 := 372) rfl rfl rfl (by assumption) rfl ?_
        refine fs_iload_n (pc2 := 373) rfl rfl rfl rfl ?_
        refine fs_iconst (pc2 := 374) rfl rfl rfl ?_
        try simp (disch := omega) only [nI_lit, pk_mul, nI_add, pk_sub, pk_rem4, nI_clamp, up2_o, up2_s, up2_i, cpV_o, cpV_i]
        refine fs_iast (pc2 := 375) rfl rfl rfl (by assumption) (vp_in_nI (by omega) (by decide)) ?_
        refine fs_iinc (pc2 := 378) rfl rfl rfl (Nat.le_of_ble_eq_true rfl) rfl ?_
        refine fs_goto rfl rfl ?_
        try simp (disch := omega) only [nI_lit, pk_mul, nI_add, pk_sub, pk_rem4, nI_clamp, up2_o, up2_s, up2_i, cpV_o, cpV_i]
        rw [cpV_10 rfl]
        exact ih (i + 1) (by omega)
  refine fs_iconst (pc2 := 361) rfl rfl rfl ?_
  refine fs_istore_n (pc2 := 362) rfl rfl rfl (Nat.le_of_ble_eq_true rfl) ?_
  rw [← cpV_0 (V := V45) (A := mb + 19) (b := 0) (f := fun _ => -1)]
  exact loop _ _ 8 0 (by omega)
end MINIT
