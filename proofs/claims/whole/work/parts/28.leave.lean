/-! a channel leaves, gives credits, asks -/
def two (k : Nat) : List Nat := [k % 256, k / 256]
def ch_leave (y : Ch) (i : Nat) : Ch := (va_up (va_up (va_up y.1 1 3) 2 i) 11 0, none, [], y.2.2.2.1, [])
def ho_leave (H : Ho) (k : Nat) : Ho := hoQ (hoC (hoN H 9 (ho_id H)) k (ch_leave (H.2.1 k) (ho_id H))) (H.2.2.2.2.1 ++ [[6, ho_id H, 4, 0] ++ two ((H.2.1 k).1 6) ++ two (64 + k)])
def ho_give (H : Ho) (k cr : Nat) : Ho := hoQ (hoC (hoN H 9 (ho_id H)) k (va_up (H.2.1 k).1 5 ((H.2.1 k).1 5 + cr), (H.2.1 k).2)) (H.2.2.2.2.1 ++ [[22, ho_id H, 4, 0] ++ two (64 + k) ++ two cr])
def ch_ask (y : Ch) (i m p cr : Nat) : Ch := (va_up (va_up (va_up (va_up (va_up y.1 3 m) 4 p) 5 cr) 1 1) 2 i, y.2.1, y.2.2.1, [], y.2.2.2.2)
def ho_ask (H : Ho) (k s m p cr : Nat) : Ho := hoQ (hoC (hoN H 9 (ho_id H)) k (ch_ask (H.2.1 k) (ho_id H) m p cr)) (H.2.2.2.2.1 ++ [[20, ho_id H, 10, 0] ++ two s ++ two (64 + k) ++ two m ++ two p ++ two cr])
theorem va_up2 {α : Type} {f : Nat → α} {k : Nat} {a b : α} : va_up (va_up f k a) k b = va_up f k b := by
  funext i
  unfold va_up
  split <;> rfl
section LEAVE
variable {cy : Nat → ClassId} {z0 : Nat} {ext : Nat → Nat → List Value → ev_H → Nat → ev_P → Prop} {d : Nat} {sh : fl_S} {V : fl_V} {n K a0 hb e : Nat} {rs : List Nat} {H : Ho}
theorem Fr.row {n' e' r : Nat} {sh' : fl_S} {V' V2 : fl_V} (h : Fr hb a0 sh V n e sh' V' n' e') (hr : n ≤ r) (hk : ∀ a, a ≠ r → a ≠ r + 1 → V2 a = V' a) : Fr hb a0 sh V n e sh' V2 n' e' := ⟨h.1, h.2.1, fun a a1 a2 => by rw [hk a (by omega) (by omega)]; exact h.2.2.1 a a1 a2, h.2.2.2⟩
theorem Fr.pre {n' e' : Nat} {sh' : fl_S} {V' V1 : fl_V} (hk : ∀ a, (a < hb ∨ hb + 184 ≤ a) → V1 a = V a) (h : Fr hb a0 sh V1 n e sh' V' n' e') : Fr hb a0 sh V n e sh' V' n' e' := ⟨h.1, h.2.1, fun a a1 a2 => by rw [h.2.2.1 a a1 a2, hk a a2], h.2.2.2⟩
theorem e_nextId2 (hH : Host sh V n K a0 hb e rs H) {i : Nat} (hi : ho_id H = i) (h9 : H.1 9 ≤ 255) : fl_M cy z0 ext (d + 1) m_X1_nextId [.ref (z0 + hb)] sh V n (fun v sh' V' n' => v = some (.int (nI i)) ∧ sh' = sh ∧ n' = n ∧ Host sh V' n K a0 hb e rs (hoN H 9 i) ∧ ∀ a, (a < hb ∨ hb + 184 ≤ a) → V' a = V a) := by
  subst hi
  exact e_nextId h9 hH
theorem Host.ch {k : Nat} (h : Host sh V n K a0 hb e rs H) (hk : k < 4) : Chan sh V (hb + 2 + 19 * k) (H.2.1 k) := (h.2.1 k hk).1
set_option maxRecDepth 100000 in
set_option maxHeartbeats 4000000 in
theorem e_beginLeaving (hA : AlOK cy z0 a0 ext) (h9 : H.1 9 ≤ 255) (hlen : H.2.2.2.2.1.length < 512) {k : Nat} (hk4 : k < 4) (hH : Host sh V n K a0 hb e rs H) : fl_M cy z0 ext (d + 10) m_X1_beginLeaving [.ref (z0 + hb), .ref (z0 + (hb + 2 + 19 * k))] sh V n (fun v sh' V' n' => v = none ∧ ∃ e' rs', Host sh' V' n' K a0 hb e' rs' (ho_leave H k) ∧ Fr hb a0 sh V n e sh' V' n' e') := by
  obtain ⟨⟨f1, ⟨gc, f2, f3⟩, f4, f5, f6⟩, HC, HS, ⟨wh, HW⟩, HQ, HB, HG, HI⟩ := id hH
  unfold isHo at f1
  obtain ⟨b1, b2⟩ := id HB.1
  obtain ⟨t1, t2⟩ := id HG.1
  have al0 := HQ.1
  unfold eAl at al0
  have lnG : H.2.2.2.2.2.2.length ≤ 128 := HG.2.2.1
  have lnB : H.2.2.2.2.2.1.length ≤ 128 := HB.2.2.1
  have eG : V (hb + 182) 1 = nI H.2.2.2.2.2.2.length := HG.2.2.2.2.1
  have eB : V (hb + 180) 1 = nI H.2.2.2.2.2.1.length := HB.2.2.2.2.1
  have hlt := hH.rows
  have n0 := (HC k hk4).2
  obtain ⟨c, hc⟩ : ∃ c, c = hb + 2 + 19 * k := ⟨_, rfl⟩
  have C0 : Chan sh V c (H.2.1 k) := by rw [hc]; exact (HC k hk4).1
  have s0 := C0.1
  unfold isChan at s0
  rw [← hc]
  refine fs_body rfl rfl (fun Ret hP => ?_)
  refine fs_aload_n (pc2 := 1) rfl rfl rfl rfl ?_
  refine fs_iconst (pc2 := 2) rfl rfl rfl ?_
  refine fs_puti (pc2 := 5) rfl rfl rfl (by assumption) rfl True.intro ?_
  have hH1 := hH.putC (k := k) hk4 (V' := up2 V c 1 3) (y := (va_up (H.2.1 k).1 1 3, (H.2.1 k).2)) (by rw [← hc]; exact C0.put (j := 1) (k := 3) (by decide) (by decide)) (by simp [va_up, n0]) (fun a ha => up2_o (by omega))
  refine fs_aload_n (pc2 := 6) rfl rfl rfl rfl ?_
  refine fs_aload_n (pc2 := 7) rfl rfl rfl rfl ?_
  refine fs_callv (pc2 := 10) rfl rfl rfl rfl ⟨rfl, rfl⟩ (Nat.le_of_ble_eq_true rfl) (Nat.le_of_ble_eq_true rfl) (Nat.le_of_ble_eq_true rfl) (fs_rcv rfl (by assumption)) (e_nextId2 hH1 (i := ho_id H) rfl (by exact h9)) (fun v9 sh9 V9 n9 hp9 => ?_)
  obtain ⟨ea9, eb9, ec9, hH2, hf2⟩ := hp9
  cases ea9
  obtain rfl := eb9.symm
  obtain rfl := ec9.symm
  have C2 := hH2.ch hk4
  rw [show (hoN (hoC H k (va_up (H.2.1 k).1 1 3, (H.2.1 k).2)) 9 (ho_id (hoC H k (va_up (H.2.1 k).1 1 3, (H.2.1 k).2)))).2.1 k = (va_up (H.2.1 k).1 1 3, (H.2.1 k).2) from va_up_self _ _ _, ← hc] at C2
  have C3 := C2.put (j := 2) (k := ho_id H) (by have := ho_id_lt H; omega) (by decide)
  refine fs_puti (pc2 := 13) rfl rfl rfl (by assumption) rfl True.intro ?_
  refine fs_aload_n (pc2 := 14) rfl rfl rfl rfl ?_
  refine fs_callv (pc2 := 17) rfl rfl rfl rfl ⟨rfl, rfl⟩ (Nat.le_of_ble_eq_true rfl) (Nat.le_of_ble_eq_true rfl) (Nat.le_of_ble_eq_true rfl) (fs_rcv rfl (by assumption)) (e_Chan_forgetTexts C3) (fun v9 sh9 V9 n9 hp9 => ?_)
  obtain ⟨ea9, eb9, ec9, C4, hf4⟩ := hp9
  cases ea9
  obtain rfl := eb9.symm
  obtain rfl := ec9.symm
  have hH4 : Host sh V9 n K a0 hb e rs (hoC (hoN H 9 (ho_id H)) k (ch_leave (H.2.1 k) (ho_id H))) := by
    have q := hH2.putC (k := k) hk4 (by rw [← hc]; exact C4) (by simp [va_up, n0]) (fun a ha => by rw [hf4 a (by omega), up2_o (by omega)])
    simp only [hoC, hoN, va_up2] at q
    exact q
  have e2 : V9 c 2 = nI (ho_id H) := by rw [(C4.i 2 (by omega)).1]; simp [va_up]
  have hf0 : ∀ a, (a < hb ∨ hb + 184 ≤ a) → V9 a = V a := fun a ha => by rw [hf4 a (by omega), up2_o (by omega), hf2 a (by omega), up2_o (by omega)]
  refine fs_aload_n (pc2 := 18) rfl rfl rfl rfl ?_
  refine fs_bipush (pc2 := 20) rfl rfl rfl ?_
  refine fs_aload_n (pc2 := 21) rfl rfl rfl rfl ?_
  refine fs_geti (pc2 := 24) rfl rfl rfl (by assumption) rfl ?_
  refine fs_iconst (pc2 := 25) rfl rfl rfl ?_
  refine fs_callv (pc2 := 28) rfl rfl rfl rfl ⟨rfl, rfl⟩ (Nat.le_of_ble_eq_true rfl) (Nat.le_of_ble_eq_true rfl) (Nat.le_of_ble_eq_true rfl) (fs_rcv rfl (by assumption)) (by rw [e2]; exact e_addSignal (co := 6) (k := 2) hA (by decide) (ho_id_lt H) (by decide) (by exact hlen) hH4) (fun v9 sh9 V9 n9 hp9 => ?_)
  obtain ⟨ea9, e1, k0, frs⟩ := hp9
  cases ea9
  obtain ⟨z0a, z0b⟩ := id (k0.lastRow rfl).1.1
  have cs0 := (k0.ch hk4).1
  unfold isChan at cs0
  rw [hc]
  have frs := Fr.pre hf0 frs
  refine fs_astore_n (pc2 := 29) rfl rfl rfl (Nat.le_of_ble_eq_true rfl) ?_
  refine fs_aload_n (pc2 := 30) rfl rfl rfl rfl ?_
  refine fs_aload_n (pc2 := 31) rfl rfl rfl rfl ?_
  refine fs_geti (pc2 := 34) rfl rfl rfl (by assumption) rfl ?_
  refine fs_callv (pc2 := 37) rfl rfl rfl rfl ⟨rfl, rfl⟩ (Nat.le_of_ble_eq_true rfl) (Nat.le_of_ble_eq_true rfl) (Nat.le_of_ble_eq_true rfl) (fs_rcv rfl (by assumption)) (by rw [show V9 (hb + 2 + 19 * k) 6 = nI ((H.2.1 k).1 6) from by rw [((k0.ch hk4).i 6 (by omega)).1]; show nI ((va_up H.2.1 k (ch_leave (H.2.1 k) (ho_id H)) k).1 6) = _; rw [va_up_self]; simp [ch_leave, va_up, n0]]; exact e_Row_addNumber ((HC k hk4).1.2.1 6) (k0.lastRow rfl).1 (by simp [two])) (fun v9 sh9 V9 n9 hp9 => ?_)
  obtain ⟨ea9, eb9, ec9, rr0, ff0⟩ := hp9
  cases ea9
  obtain rfl := eb9.symm
  obtain rfl := ec9.symm
  have k1 := k0.last rfl hlt rr0 ff0
  have fr1 := frs.row (Nat.le_refl _) ff0
  obtain ⟨z1, zz1⟩ := id (k1.lastRow rfl).1.1
  have cs1 := (k1.ch hk4).1
  unfold isChan at cs1
  refine fs_aload_n (pc2 := 38) rfl rfl rfl rfl ?_
  refine fs_aload_n (pc2 := 39) rfl rfl rfl rfl ?_
  refine fs_geti (pc2 := 42) rfl rfl rfl (by assumption) rfl ?_
  refine fs_callv (pc2 := 45) rfl rfl rfl rfl ⟨rfl, rfl⟩ (Nat.le_of_ble_eq_true rfl) (Nat.le_of_ble_eq_true rfl) (Nat.le_of_ble_eq_true rfl) (fs_rcv rfl (by assumption)) (by rw [show V9 (hb + 2 + 19 * k) 0 = nI (64 + k) from by rw [((k1.ch hk4).i 0 (by omega)).1]; show nI ((va_up H.2.1 k (ch_leave (H.2.1 k) (ho_id H)) k).1 0) = _; rw [va_up_self]; simp [ch_leave, va_up, n0]]; exact e_Row_addNumber (by omega) (k1.lastRow rfl).1 (by simp [two])) (fun v9 sh9 V9 n9 hp9 => ?_)
  obtain ⟨ea9, eb9, ec9, rr1, ff1⟩ := hp9
  cases ea9
  obtain rfl := eb9.symm
  obtain rfl := ec9.symm
  have k2 := k1.last rfl hlt rr1 ff1
  have fr2 := fr1.row (Nat.le_refl _) ff1
  obtain ⟨z2, zz2⟩ := id (k2.lastRow rfl).1.1
  have cs2 := (k2.ch hk4).1
  unfold isChan at cs2
  refine fs_ret rfl rfl ?_
  have kf := k2
  exact hP _ _ _ _ ⟨rfl, e1, _, kf, fr2⟩
set_option maxRecDepth 100000 in
set_option maxHeartbeats 4000000 in
theorem e_giveCredits (hA : AlOK cy z0 a0 ext) (h9 : H.1 9 ≤ 255) (hlen : H.2.2.2.2.1.length < 512) {k : Nat} (hk4 : k < 4) {cr : Nat} (hcr : (H.2.1 k).1 5 + cr < 65536) (hH : Host sh V n K a0 hb e rs H) : fl_M cy z0 ext (d + 10) m_X1_giveCredits [.ref (z0 + hb), .ref (z0 + (hb + 2 + 19 * k)), .int (nI cr)] sh V n (fun v sh' V' n' => v = none ∧ ∃ e' rs', Host sh' V' n' K a0 hb e' rs' (ho_give H k cr) ∧ Fr hb a0 sh V n e sh' V' n' e') := by
  obtain ⟨⟨f1, ⟨gc, f2, f3⟩, f4, f5, f6⟩, HC, HS, ⟨wh, HW⟩, HQ, HB, HG, HI⟩ := id hH
  unfold isHo at f1
  obtain ⟨b1, b2⟩ := id HB.1
  obtain ⟨t1, t2⟩ := id HG.1
  have al0 := HQ.1
  unfold eAl at al0
  have lnG : H.2.2.2.2.2.2.length ≤ 128 := HG.2.2.1
  have lnB : H.2.2.2.2.2.1.length ≤ 128 := HB.2.2.1
  have eG : V (hb + 182) 1 = nI H.2.2.2.2.2.2.length := HG.2.2.2.2.1
  have eB : V (hb + 180) 1 = nI H.2.2.2.2.2.1.length := HB.2.2.2.2.1
  have hlt := hH.rows
  have n0 := (HC k hk4).2
  obtain ⟨c, hc⟩ : ∃ c, c = hb + 2 + 19 * k := ⟨_, rfl⟩
  have C0 : Chan sh V c (H.2.1 k) := by rw [hc]; exact (HC k hk4).1
  have s0 := C0.1
  unfold isChan at s0
  rw [← hc]
  have e5 : V c 5 + nI cr = nI ((H.2.1 k).1 5 + cr) := by rw [(C0.i 5 (by omega)).1, nI_add]
  refine fs_body rfl rfl (fun Ret hP => ?_)
  refine fs_aload_n (pc2 := 1) rfl rfl rfl rfl ?_
  first | refine fs_dup_r (pc2 := 2) rfl rfl rfl ?_ | refine fs_dup_i (pc2 := 2) rfl rfl rfl ?_
  refine fs_geti (pc2 := 5) rfl rfl rfl (by assumption) rfl ?_
  refine fs_iload_n (pc2 := 6) rfl rfl rfl rfl ?_
  refine fs_iadd (pc2 := 7) rfl rfl rfl ?_
  refine fs_puti (pc2 := 10) rfl rfl rfl (by assumption) rfl True.intro ?_
  rw [e5]
  have hH1 := hH.putC (k := k) hk4 (V' := up2 V c 5 (nI ((H.2.1 k).1 5 + cr))) (y := (va_up (H.2.1 k).1 5 ((H.2.1 k).1 5 + cr), (H.2.1 k).2)) (by rw [← hc]; exact C0.put (j := 5) hcr (by decide)) (by simp [va_up, n0]) (fun a ha => up2_o (by omega))
  refine fs_aload_n (pc2 := 11) rfl rfl rfl rfl ?_
  refine fs_bipush (pc2 := 13) rfl rfl rfl ?_
  refine fs_aload_n (pc2 := 14) rfl rfl rfl rfl ?_
  refine fs_callv (pc2 := 17) rfl rfl rfl rfl ⟨rfl, rfl⟩ (Nat.le_of_ble_eq_true rfl) (Nat.le_of_ble_eq_true rfl) (Nat.le_of_ble_eq_true rfl) (fs_rcv rfl (by assumption)) (e_nextId2 hH1 (i := ho_id H) rfl (by exact h9)) (fun v9 sh9 V9 n9 hp9 => ?_)
  obtain ⟨ea9, eb9, ec9, hH2, hf2⟩ := hp9
  cases ea9
  obtain rfl := eb9.symm
  obtain rfl := ec9.symm
  have hf0 : ∀ a, (a < hb ∨ hb + 184 ≤ a) → V9 a = V a := fun a ha => by rw [hf2 a (by omega), up2_o (by omega)]
  have hH4 : Host sh V9 n K a0 hb e rs (hoC (hoN H 9 (ho_id H)) k (va_up (H.2.1 k).1 5 ((H.2.1 k).1 5 + cr), (H.2.1 k).2)) := hH2
  refine fs_iconst (pc2 := 18) rfl rfl rfl ?_
  refine fs_callv (pc2 := 21) rfl rfl rfl rfl ⟨rfl, rfl⟩ (Nat.le_of_ble_eq_true rfl) (Nat.le_of_ble_eq_true rfl) (Nat.le_of_ble_eq_true rfl) (fs_rcv rfl (by assumption)) (e_addSignal (co := 22) (k := 2) hA (by decide) (ho_id_lt H) (by decide) (by exact hlen) hH4) (fun v9 sh9 V9 n9 hp9 => ?_)
  obtain ⟨ea9, e1, k0, frs⟩ := hp9
  cases ea9
  obtain ⟨z0a, z0b⟩ := id (k0.lastRow rfl).1.1
  have cs0 := (k0.ch hk4).1
  unfold isChan at cs0
  rw [hc]
  have frs := Fr.pre hf0 frs
  refine fs_astore_n (pc2 := 22) rfl rfl rfl (Nat.le_of_ble_eq_true rfl) ?_
  refine fs_aload_n (pc2 := 23) rfl rfl rfl rfl ?_
  refine fs_aload_n (pc2 := 24) rfl rfl rfl rfl ?_
  refine fs_geti (pc2 := 27) rfl rfl rfl (by assumption) rfl ?_
  refine fs_callv (pc2 := 30) rfl rfl rfl rfl ⟨rfl, rfl⟩ (Nat.le_of_ble_eq_true rfl) (Nat.le_of_ble_eq_true rfl) (Nat.le_of_ble_eq_true rfl) (fs_rcv rfl (by assumption)) (by rw [show V9 (hb + 2 + 19 * k) 0 = nI (64 + k) from by rw [((k0.ch hk4).i 0 (by omega)).1]; show nI ((va_up H.2.1 k (va_up (H.2.1 k).1 5 ((H.2.1 k).1 5 + cr), (H.2.1 k).2) k).1 0) = _; rw [va_up_self]; simp [va_up, n0]]; exact e_Row_addNumber (by omega) (k0.lastRow rfl).1 (by simp [two])) (fun v9 sh9 V9 n9 hp9 => ?_)
  obtain ⟨ea9, eb9, ec9, rr0, ff0⟩ := hp9
  cases ea9
  obtain rfl := eb9.symm
  obtain rfl := ec9.symm
  have k1 := k0.last rfl hlt rr0 ff0
  have fr1 := frs.row (Nat.le_refl _) ff0
  obtain ⟨z1, zz1⟩ := id (k1.lastRow rfl).1.1
  have cs1 := (k1.ch hk4).1
  unfold isChan at cs1
  refine fs_aload_n (pc2 := 31) rfl rfl rfl rfl ?_
  refine fs_iload_n (pc2 := 32) rfl rfl rfl rfl ?_
  refine fs_callv (pc2 := 35) rfl rfl rfl rfl ⟨rfl, rfl⟩ (Nat.le_of_ble_eq_true rfl) (Nat.le_of_ble_eq_true rfl) (Nat.le_of_ble_eq_true rfl) (fs_rcv rfl (by assumption)) (by exact e_Row_addNumber (by omega) (k1.lastRow rfl).1 (by simp [two])) (fun v9 sh9 V9 n9 hp9 => ?_)
  obtain ⟨ea9, eb9, ec9, rr1, ff1⟩ := hp9
  cases ea9
  obtain rfl := eb9.symm
  obtain rfl := ec9.symm
  have k2 := k1.last rfl hlt rr1 ff1
  have fr2 := fr1.row (Nat.le_refl _) ff1
  obtain ⟨z2, zz2⟩ := id (k2.lastRow rfl).1.1
  have cs2 := (k2.ch hk4).1
  unfold isChan at cs2
  refine fs_ret rfl rfl ?_
  have kf := k2
  exact hP _ _ _ _ ⟨rfl, e1, _, kf, fr2⟩
set_option maxRecDepth 100000 in
set_option maxHeartbeats 4000000 in
theorem e_ask_full (hcl : ho_closed H = none) {s m p cr : Int32} (hH : Host sh V n K a0 hb e rs H) : fl_M cy z0 ext (d + 2) m_X1_ask [.ref (z0 + hb), .int s, .int m, .int p, .int cr] sh V n (fun v sh' V' n' => v = some (.int (-2)) ∧ sh' = sh ∧ n' = n ∧ V' = V) := by
  obtain ⟨⟨f1, ⟨gc, f2, f3⟩, f4, f5, f6⟩, HC, HS, ⟨wh, HW⟩, HQ, HB, HG, HI⟩ := id hH
  unfold isHo at f1
  obtain ⟨b1, b2⟩ := id HB.1
  obtain ⟨t1, t2⟩ := id HG.1
  have al0 := HQ.1
  unfold eAl at al0
  have lnG : H.2.2.2.2.2.2.length ≤ 128 := HG.2.2.1
  have lnB : H.2.2.2.2.2.1.length ≤ 128 := HB.2.2.1
  have eG : V (hb + 182) 1 = nI H.2.2.2.2.2.2.length := HG.2.2.2.2.1
  have eB : V (hb + 180) 1 = nI H.2.2.2.2.2.1.length := HB.2.2.2.2.1
  refine fs_body rfl rfl (fun Ret hP => ?_)
  refine fs_aload_n (pc2 := 1) rfl rfl rfl rfl ?_
  refine fs_callv (pc2 := 4) rfl rfl rfl rfl ⟨rfl, rfl⟩ (Nat.le_of_ble_eq_true rfl) (Nat.le_of_ble_eq_true rfl) (Nat.le_of_ble_eq_true rfl) (fs_rcv rfl (by assumption)) (e_firstClosed hH) (fun v9 sh9 V9 n9 hp9 => ?_)
  obtain ⟨ea9, eb9, ec9, hv9⟩ := hp9
  cases ea9
  obtain rfl := eb9.symm
  obtain rfl := ec9.symm
  cases hv9
  rw [hcl]
  refine fs_astore0 (pc2 := 6) rfl rfl rfl (Nat.le_of_ble_eq_true rfl) ?_
  refine fs_aload0 (pc2 := 8) rfl rfl rfl rfl ?_
  refine fs_ifnonnull0 (pc2 := 11) rfl rfl rfl ?_
  refine fs_bipush (pc2 := 13) rfl rfl rfl ?_
  refine fs_iret rfl rfl True.intro ?_
  exact hP _ _ _ _ ⟨rfl, rfl, rfl, rfl⟩
set_option maxRecDepth 100000 in
set_option maxHeartbeats 4000000 in
theorem e_ask (hA : AlOK cy z0 a0 ext) (h9 : H.1 9 ≤ 255) (hlen : H.2.2.2.2.1.length < 512) {k : Nat} (hk4 : k < 4) (hcl : ho_closed H = some k) {s m p cr : Nat} (hs : s < 65536) (hm : m < 65536) (hp : p < 65536) (hcr : cr < 65536) (hH : Host sh V n K a0 hb e rs H) : fl_M cy z0 ext (d + 10) m_X1_ask [.ref (z0 + hb), .int (nI s), .int (nI m), .int (nI p), .int (nI cr)] sh V n (fun v sh' V' n' => v = some (.int (nI (64 + k))) ∧ ∃ e' rs', Host sh' V' n' K a0 hb e' rs' (ho_ask H k s m p cr) ∧ Fr hb a0 sh V n e sh' V' n' e') := by
  obtain ⟨⟨f1, ⟨gc, f2, f3⟩, f4, f5, f6⟩, HC, HS, ⟨wh, HW⟩, HQ, HB, HG, HI⟩ := id hH
  unfold isHo at f1
  obtain ⟨b1, b2⟩ := id HB.1
  obtain ⟨t1, t2⟩ := id HG.1
  have al0 := HQ.1
  unfold eAl at al0
  have lnG : H.2.2.2.2.2.2.length ≤ 128 := HG.2.2.1
  have lnB : H.2.2.2.2.2.1.length ≤ 128 := HB.2.2.1
  have eG : V (hb + 182) 1 = nI H.2.2.2.2.2.2.length := HG.2.2.2.2.1
  have eB : V (hb + 180) 1 = nI H.2.2.2.2.2.1.length := HB.2.2.2.2.1
  have hlt := hH.rows
  have n0 := (HC k hk4).2
  obtain ⟨c, hc⟩ : ∃ c, c = hb + 2 + 19 * k := ⟨_, rfl⟩
  have C0 : Chan sh V c (H.2.1 k) := by rw [hc]; exact (HC k hk4).1
  have s0 := C0.1
  unfold isChan at s0
  refine fs_body rfl rfl (fun Ret hP => ?_)
  refine fs_aload_n (pc2 := 1) rfl rfl rfl rfl ?_
  refine fs_callv (pc2 := 4) rfl rfl rfl rfl ⟨rfl, rfl⟩ (Nat.le_of_ble_eq_true rfl) (Nat.le_of_ble_eq_true rfl) (Nat.le_of_ble_eq_true rfl) (fs_rcv rfl (by assumption)) (e_firstClosed hH) (fun v9 sh9 V9 n9 hp9 => ?_)
  obtain ⟨ea9, eb9, ec9, hv9⟩ := hp9
  cases ea9
  obtain rfl := eb9.symm
  obtain rfl := ec9.symm
  cases hv9
  rw [hcl, show fl_r z0 (Option.map (fun j => hb + 2 + 19 * j) (some k)) = .ref (z0 + c) from by rw [hc]; rfl]
  refine fs_astore (pc2 := 6) rfl rfl rfl (Nat.le_of_ble_eq_true rfl) ?_
  refine fs_aload (pc2 := 8) rfl rfl rfl rfl ?_
  refine fs_ifnonnull rfl rfl ?_
  refine fs_aload (pc2 := 16) rfl rfl rfl rfl ?_
  refine fs_iload_n (pc2 := 17) rfl rfl rfl rfl ?_
  refine fs_iload_n (pc2 := 18) rfl rfl rfl rfl ?_
  refine fs_iload (pc2 := 20) rfl rfl rfl rfl ?_
  refine fs_callv (pc2 := 23) rfl rfl rfl rfl ⟨rfl, rfl⟩ (Nat.le_of_ble_eq_true rfl) (Nat.le_of_ble_eq_true rfl) (Nat.le_of_ble_eq_true rfl) (fs_rcv rfl (by assumption)) (e_Chan_setOwn hm hp hcr C0) (fun v9 sh9 V9 n9 hp9 => ?_)
  obtain ⟨ea9, eb9, ec9, C1, hf1⟩ := hp9
  cases ea9
  obtain rfl := eb9.symm
  obtain rfl := ec9.symm
  have C2 := C1.put (j := 1) (k := 1) (by decide) (by decide)
  have hH1 := hH.putC (k := k) hk4 (by rw [← hc]; exact C2) (by simp [va_up, n0]) (fun a ha => by rw [up2_o (by omega), hf1 a (by omega)])
  refine fs_aload (pc2 := 25) rfl rfl rfl rfl ?_
  refine fs_iconst (pc2 := 26) rfl rfl rfl ?_
  refine fs_puti (pc2 := 29) rfl rfl rfl (by assumption) rfl True.intro ?_
  refine fs_aload (pc2 := 31) rfl rfl rfl rfl ?_
  refine fs_aload_n (pc2 := 32) rfl rfl rfl rfl ?_
  refine fs_callv (pc2 := 35) rfl rfl rfl rfl ⟨rfl, rfl⟩ (Nat.le_of_ble_eq_true rfl) (Nat.le_of_ble_eq_true rfl) (Nat.le_of_ble_eq_true rfl) (fs_rcv rfl (by assumption)) (e_nextId2 hH1 (i := ho_id H) rfl (by exact h9)) (fun v9 sh9 V9 n9 hp9 => ?_)
  obtain ⟨ea9, eb9, ec9, hH2, hf2⟩ := hp9
  cases ea9
  obtain rfl := eb9.symm
  obtain rfl := ec9.symm
  have C3 : Chan sh V9 c (va_up (va_up (va_up (va_up (H.2.1 k).1 3 m) 4 p) 5 cr) 1 1, (H.2.1 k).2.1, (H.2.1 k).2.2.1, [], (H.2.1 k).2.2.2.2) := by
    have q := hH2.ch hk4
    rw [show (hoN (hoC H k (va_up (va_up (va_up (va_up (H.2.1 k).1 3 m) 4 p) 5 cr) 1 1, (H.2.1 k).2.1, (H.2.1 k).2.2.1, [], (H.2.1 k).2.2.2.2)) 9 (ho_id H)).2.1 k = (va_up (va_up (va_up (va_up (H.2.1 k).1 3 m) 4 p) 5 cr) 1 1, (H.2.1 k).2.1, (H.2.1 k).2.2.1, [], (H.2.1 k).2.2.2.2) from va_up_self _ _ _, ← hc] at q
    exact q
  have C4 := C3.put (j := 2) (k := ho_id H) (by have := ho_id_lt H; omega) (by decide)
  have hH4 : Host sh (up2 V9 c 2 (nI (ho_id H))) n K a0 hb e rs (hoC (hoN H 9 (ho_id H)) k (ch_ask (H.2.1 k) (ho_id H) m p cr)) := by
    have q := hH2.putC (k := k) hk4 (by rw [← hc]; exact C4) (by simp [va_up, n0]) (fun a ha => by rw [up2_o (by omega)])
    simp only [hoC, hoN, va_up2] at q
    exact q
  have e2 : up2 V9 c 2 (nI (ho_id H)) c 2 = nI (ho_id H) := by simp [up2]
  have hf0 : ∀ a, (a < hb ∨ hb + 184 ≤ a) → up2 V9 c 2 (nI (ho_id H)) a = V a := fun a ha => by rw [up2_o (by omega), hf2 a (by omega), up2_o (by omega), hf1 a (by omega)]
  refine fs_puti (pc2 := 38) rfl rfl rfl (by assumption) rfl True.intro ?_
  refine fs_aload_n (pc2 := 39) rfl rfl rfl rfl ?_
  refine fs_bipush (pc2 := 41) rfl rfl rfl ?_
  refine fs_aload (pc2 := 43) rfl rfl rfl rfl ?_
  refine fs_geti (pc2 := 46) rfl rfl rfl (by assumption) rfl ?_
  refine fs_iconst (pc2 := 47) rfl rfl rfl ?_
  refine fs_callv (pc2 := 50) rfl rfl rfl rfl ⟨rfl, rfl⟩ (Nat.le_of_ble_eq_true rfl) (Nat.le_of_ble_eq_true rfl) (Nat.le_of_ble_eq_true rfl) (fs_rcv rfl (by assumption)) (by rw [e2]; exact e_addSignal (co := 20) (k := 5) hA (by decide) (ho_id_lt H) (by decide) (by exact hlen) hH4) (fun v9 sh9 V9 n9 hp9 => ?_)
  obtain ⟨ea9, e1, k0, frs⟩ := hp9
  cases ea9
  obtain ⟨z0a, z0b⟩ := id (k0.lastRow rfl).1.1
  have cs0 := (k0.ch hk4).1
  unfold isChan at cs0
  rw [hc]
  have frs := Fr.pre hf0 frs
  refine fs_astore (pc2 := 52) rfl rfl rfl (Nat.le_of_ble_eq_true rfl) ?_
  refine fs_aload (pc2 := 54) rfl rfl rfl rfl ?_
  refine fs_iload_n (pc2 := 55) rfl rfl rfl rfl ?_
  refine fs_callv (pc2 := 58) rfl rfl rfl rfl ⟨rfl, rfl⟩ (Nat.le_of_ble_eq_true rfl) (Nat.le_of_ble_eq_true rfl) (Nat.le_of_ble_eq_true rfl) (fs_rcv rfl (by assumption)) (by exact e_Row_addNumber hs (k0.lastRow rfl).1 (by simp [two])) (fun v9 sh9 V9 n9 hp9 => ?_)
  obtain ⟨ea9, eb9, ec9, rr0, ff0⟩ := hp9
  cases ea9
  obtain rfl := eb9.symm
  obtain rfl := ec9.symm
  have k1 := k0.last rfl hlt rr0 ff0
  have fr1 := frs.row (Nat.le_refl _) ff0
  obtain ⟨z1, zz1⟩ := id (k1.lastRow rfl).1.1
  have cs1 := (k1.ch hk4).1
  unfold isChan at cs1
  refine fs_aload (pc2 := 60) rfl rfl rfl rfl ?_
  refine fs_aload (pc2 := 62) rfl rfl rfl rfl ?_
  refine fs_geti (pc2 := 65) rfl rfl rfl (by assumption) rfl ?_
  refine fs_callv (pc2 := 68) rfl rfl rfl rfl ⟨rfl, rfl⟩ (Nat.le_of_ble_eq_true rfl) (Nat.le_of_ble_eq_true rfl) (Nat.le_of_ble_eq_true rfl) (fs_rcv rfl (by assumption)) (by rw [show V9 (hb + 2 + 19 * k) 0 = nI (64 + k) from by rw [((k1.ch hk4).i 0 (by omega)).1]; show nI ((va_up H.2.1 k (ch_ask (H.2.1 k) (ho_id H) m p cr) k).1 0) = _; rw [va_up_self]; simp [ch_ask, va_up, n0]]; exact e_Row_addNumber (by omega) (k1.lastRow rfl).1 (by simp [two])) (fun v9 sh9 V9 n9 hp9 => ?_)
  obtain ⟨ea9, eb9, ec9, rr1, ff1⟩ := hp9
  cases ea9
  obtain rfl := eb9.symm
  obtain rfl := ec9.symm
  have k2 := k1.last rfl hlt rr1 ff1
  have fr2 := fr1.row (Nat.le_refl _) ff1
  obtain ⟨z2, zz2⟩ := id (k2.lastRow rfl).1.1
  have cs2 := (k2.ch hk4).1
  unfold isChan at cs2
  refine fs_aload (pc2 := 70) rfl rfl rfl rfl ?_
  refine fs_iload_n (pc2 := 71) rfl rfl rfl rfl ?_
  refine fs_callv (pc2 := 74) rfl rfl rfl rfl ⟨rfl, rfl⟩ (Nat.le_of_ble_eq_true rfl) (Nat.le_of_ble_eq_true rfl) (Nat.le_of_ble_eq_true rfl) (fs_rcv rfl (by assumption)) (by exact e_Row_addNumber hm (k2.lastRow rfl).1 (by simp [two])) (fun v9 sh9 V9 n9 hp9 => ?_)
  obtain ⟨ea9, eb9, ec9, rr2, ff2⟩ := hp9
  cases ea9
  obtain rfl := eb9.symm
  obtain rfl := ec9.symm
  have k3 := k2.last rfl hlt rr2 ff2
  have fr3 := fr2.row (Nat.le_refl _) ff2
  obtain ⟨z3, zz3⟩ := id (k3.lastRow rfl).1.1
  have cs3 := (k3.ch hk4).1
  unfold isChan at cs3
  refine fs_aload (pc2 := 76) rfl rfl rfl rfl ?_
  refine fs_iload_n (pc2 := 77) rfl rfl rfl rfl ?_
  refine fs_callv (pc2 := 80) rfl rfl rfl rfl ⟨rfl, rfl⟩ (Nat.le_of_ble_eq_true rfl) (Nat.le_of_ble_eq_true rfl) (Nat.le_of_ble_eq_true rfl) (fs_rcv rfl (by assumption)) (by exact e_Row_addNumber hp (k3.lastRow rfl).1 (by simp [two])) (fun v9 sh9 V9 n9 hp9 => ?_)
  obtain ⟨ea9, eb9, ec9, rr3, ff3⟩ := hp9
  cases ea9
  obtain rfl := eb9.symm
  obtain rfl := ec9.symm
  have k4 := k3.last rfl hlt rr3 ff3
  have fr4 := fr3.row (Nat.le_refl _) ff3
  obtain ⟨z4, zz4⟩ := id (k4.lastRow rfl).1.1
  have cs4 := (k4.ch hk4).1
  unfold isChan at cs4
  refine fs_aload (pc2 := 82) rfl rfl rfl rfl ?_
  refine fs_iload (pc2 := 84) rfl rfl rfl rfl ?_
  refine fs_callv (pc2 := 87) rfl rfl rfl rfl ⟨rfl, rfl⟩ (Nat.le_of_ble_eq_true rfl) (Nat.le_of_ble_eq_true rfl) (Nat.le_of_ble_eq_true rfl) (fs_rcv rfl (by assumption)) (by exact e_Row_addNumber hcr (k4.lastRow rfl).1 (by simp [two])) (fun v9 sh9 V9 n9 hp9 => ?_)
  obtain ⟨ea9, eb9, ec9, rr4, ff4⟩ := hp9
  cases ea9
  obtain rfl := eb9.symm
  obtain rfl := ec9.symm
  have k5 := k4.last rfl hlt rr4 ff4
  have fr5 := fr4.row (Nat.le_refl _) ff4
  obtain ⟨z5, zz5⟩ := id (k5.lastRow rfl).1.1
  have cs5 := (k5.ch hk4).1
  unfold isChan at cs5
  refine fs_aload (pc2 := 89) rfl rfl rfl rfl ?_
  refine fs_geti (pc2 := 92) rfl rfl rfl (by assumption) rfl ?_
  refine fs_iret rfl rfl True.intro ?_
  rw [((k5.ch hk4).i 0 (by omega)).1]
  have kf := k5
  refine hP _ _ _ _ ⟨?_, e1, _, kf, fr5⟩
  show some (Value.int (nI ((va_up H.2.1 k (ch_ask (H.2.1 k) (ho_id H) m p cr) k).1 0))) = _
  rw [va_up_self]
  simp [ch_ask, va_up, n0]
end LEAVE
