/-! what a compare of two naturals tells -/
theorem c_lt {u v : Int32} {a b : Nat} (h : u < v) (hu : u = nI a) (hv : v = nI b) (ha : a < 2 ^ 31 := by omega) (hb : b < 2 ^ 31 := by omega) : a < b := (nI_ltI ha hb).mp (hu ▸ hv ▸ h)
theorem c_nlt {u v : Int32} {a b : Nat} (h : ¬ u < v) (hu : u = nI a) (hv : v = nI b) (hb : b < 2 ^ 31 := by omega) (ha : a < 2 ^ 31 := by omega) : b ≤ a := by
  subst hu; subst hv
  rcases Nat.lt_or_ge a b with z | z
  · exact absurd ((nI_ltI ha hb).mpr z) h
  · exact z
theorem c_le {u v : Int32} {a b : Nat} (h : u ≤ v) (hu : u = nI a) (hv : v = nI b) (ha : a < 2 ^ 31 := by omega) (hb : b < 2 ^ 31 := by omega) : a ≤ b := (nI_leI ha hb).mp (hu ▸ hv ▸ h)
theorem c_nle {u v : Int32} {a b : Nat} (h : ¬ u ≤ v) (hu : u = nI a) (hv : v = nI b) (ha : a < 2 ^ 31 := by omega) (hb : b < 2 ^ 31 := by omega) : b < a := by
  subst hu; subst hv
  rcases Nat.lt_or_ge b a with z | z
  · exact z
  · exact absurd ((nI_leI ha hb).mpr z) h
theorem c_eq {u v : Int32} {a b : Nat} (h : u = v) (hu : u = nI a) (hv : v = nI b) (ha : a < 2 ^ 31 := by omega) (hb : b < 2 ^ 31 := by omega) : a = b := (nI_eq ha hb).mp (hu ▸ hv ▸ h)
theorem c_ne {u v : Int32} {a b : Nat} (h : ¬ u = v) (hu : u = nI a) (hv : v = nI b) : a ≠ b := fun z => h (by rw [hu, hv, z])
theorem nI_min {a b : Nat} (ha : a < 2 ^ 31) (hb : b < 2 ^ 31) : (if nI b < nI a then nI b else nI a) = nI (min a b) := by
  split
  · next h => rw [Nat.min_eq_right (Nat.le_of_lt ((nI_ltI hb ha).mp h))]
  · next h => rw [Nat.min_eq_left (c_nlt h rfl rfl ha hb)]
section CHAN3
variable {cy : Nat → ClassId} {z0 : Nat} {ext : Nat → Nat → List Value → ev_H → Nat → ev_P → Prop} {d : Nat} {sh : fl_S} {V : fl_V} {n c : Nat} {y : Ch}
/-- a segment of the first text goes: the channel behind it, the unit -/
def ch_write (y : Ch) (t : List Nat) (ts : List (List Nat)) : Ch := if y.1 11 + min (y.1 8) (t.length - y.1 11) < t.length then (va_up (va_up y.1 9 (y.1 9 - 1)) 11 (y.1 11 + min (y.1 8) (t.length - y.1 11)), y.2) else (va_up (va_up y.1 9 (y.1 9 - 1)) 11 0, y.2.1, ts, y.2.2.2)
def ch_unit (y : Ch) (t : List Nat) : List Nat := [min (y.1 8) (t.length - y.1 11) % 256, min (y.1 8) (t.length - y.1 11) / 256, y.1 6 % 256, y.1 6 / 256] ++ (t.drop (y.1 11)).take (min (y.1 8) (t.length - y.1 11))
set_option maxRecDepth 100000 in
set_option maxHeartbeats 4000000 in
theorem e_Chan_writeSegment {q : Nat} (hq : Row sh V q 128 []) (hd : q + 1 < c ∨ c + 19 ≤ q) {t : List Nat} {ts : List (List Nat)} (htx : y.2.2.1 = t :: ts) (hg : y.1 11 ≤ t.length) (hcr : 0 < y.1 9) (hC : Chan sh V c y) : fl_M cy z0 ext (d + 4) m_X0_writeSegment [.ref (z0 + c), .ref (z0 + q)] sh V n (fun v sh' V' n' => v = none ∧ sh' = sh ∧ n' = n ∧ Chan sh V' c (ch_write y t ts) ∧ Row sh V' q 128 (ch_unit y t) ∧ ∀ a, (a < c ∨ c + 19 ≤ a) → a ≠ q → a ≠ q + 1 → V' a = V a) := by
  obtain ⟨s0, g2, g3, g4, g5, ⟨h1, g6⟩, ⟨h2, g7⟩, g8⟩ := id hC
  unfold isChan at s0
  obtain ⟨t0, ga, t1, ta⟩ := id g6.1
  obtain ⟨r0, gb, r1, rb⟩ := id g7.1
  obtain ⟨w0, w1⟩ := id g8.1
  rw [htx] at g6
  have lt122 : t.length ≤ 122 := (g6.2.2.2.2.2.2.2 0 t rfl).2.2.1
  obtain ⟨m, hm⟩ : ∃ m, m = min (y.1 8) (t.length - y.1 11) := ⟨_, rfl⟩
  have hh : tslot h1 2 0 = h1 := by have := g6.2.2.1; unfold tslot; split <;> omega
  have ht0 := g6.2.2.2.2.2.2.2 0 t rfl
  rw [hh] at ht0
  have lh := g6.2.2.1
  obtain ⟨a, ea⟩ : ∃ a, a = c + 1 + 2 + 2 * h1 := ⟨_, rfl⟩
  rw [← ea] at ht0
  obtain ⟨u0, u1⟩ := id ht0.1
  obtain ⟨q0, q1⟩ := id hq.1
  obtain ⟨e8, l8⟩ := hC.i 8 (by omega)
  obtain ⟨e9, l9⟩ := hC.i 9 (by omega)
  obtain ⟨e6, l6⟩ := hC.i 6 (by omega)
  obtain ⟨e11, l11⟩ := hC.i 11 (by omega)
  have et : V a 1 = nI t.length := ht0.2.2.2.2.1
  have em : (if V a 1 - V c 11 < V c 8 then V a 1 - V c 11 else V c 8) = nI m := by
    rw [et, e11, e8, pk_sub hg, nI_min l8 (by omega), hm]
  refine fs_body rfl rfl (fun Ret hP => ?_)
  refine fs_aload_n (pc2 := 1) rfl rfl rfl rfl ?_
  refine fs_getr (pc2 := 4) rfl rfl rfl (by assumption) rfl ?_
  refine fs_callv (pc2 := 7) rfl rfl rfl rfl ⟨rfl, rfl⟩ (Nat.le_of_ble_eq_true rfl) (Nat.le_of_ble_eq_true rfl) (Nat.le_of_ble_eq_true rfl) (fs_rcv rfl (by assumption)) (e_Texts_first g6) (fun v9 sh9 V9 n9 hp9 => ?_)
  obtain ⟨ea9, eb9, ec9, hv9⟩ := hp9
  cases ea9
  obtain rfl := eb9.symm
  obtain rfl := ec9.symm
  cases hv9
  rw [← ea]
  refine fs_astore_n (pc2 := 8) rfl rfl rfl (Nat.le_of_ble_eq_true rfl) ?_
  refine fs_aload_n (pc2 := 9) rfl rfl rfl rfl ?_
  refine fs_ifnonnull rfl rfl ?_
  refine fs_aload_n (pc2 := 14) rfl rfl rfl rfl ?_
  refine fs_geti (pc2 := 17) rfl rfl rfl (by assumption) rfl ?_
  refine fs_aload_n (pc2 := 18) rfl rfl rfl rfl ?_
  refine fs_geti (pc2 := 21) rfl rfl rfl (by assumption) rfl ?_
  refine fs_aload_n (pc2 := 22) rfl rfl rfl rfl ?_
  refine fs_geti (pc2 := 25) rfl rfl rfl (by assumption) rfl ?_
  refine fs_isub (pc2 := 26) rfl rfl rfl ?_
  refine fs_min (pc2 := 29) rfl rfl rfl rfl (Nat.le_of_ble_eq_true rfl) ?_
  refine fs_istore_n (pc2 := 30) rfl rfl rfl (Nat.le_of_ble_eq_true rfl) ?_
  refine fs_aload_n (pc2 := 31) rfl rfl rfl rfl ?_
  refine fs_iload_n (pc2 := 32) rfl rfl rfl rfl ?_
  refine fs_callv (pc2 := 35) rfl rfl rfl rfl ⟨rfl, rfl⟩ (Nat.le_of_ble_eq_true rfl) (Nat.le_of_ble_eq_true rfl) (Nat.le_of_ble_eq_true rfl) (fs_rcv rfl (by assumption)) (by rw [em]; exact e_Row_addNumber (by omega) hq (by simp)) (fun v9 sh9 V9 n9 hp9 => ?_)
  obtain ⟨ea9, eb9, ec9, hr1, hf1⟩ := hp9
  cases ea9
  obtain rfl := eb9.symm
  obtain rfl := ec9.symm
  have ec1 : V9 c = V c := hf1 c (by omega) (by omega)
  refine fs_aload_n (pc2 := 36) rfl rfl rfl rfl ?_
  refine fs_aload_n (pc2 := 37) rfl rfl rfl rfl ?_
  refine fs_geti (pc2 := 40) rfl rfl rfl (by assumption) rfl ?_
  refine fs_callv (pc2 := 43) rfl rfl rfl rfl ⟨rfl, rfl⟩ (Nat.le_of_ble_eq_true rfl) (Nat.le_of_ble_eq_true rfl) (Nat.le_of_ble_eq_true rfl) (fs_rcv rfl (by assumption)) (by rw [ec1, e6]; exact e_Row_addNumber (hC.2.1 6) hr1 (by simp)) (fun v9 sh9 V9 n9 hp9 => ?_)
  obtain ⟨ea9, eb9, ec9, hr2, hf2⟩ := hp9
  cases ea9
  obtain rfl := eb9.symm
  obtain rfl := ec9.symm
  have hf3 : ∀ b, b ≠ q → b ≠ q + 1 → V9 b = V b := fun b n1 n2 => (hf2 b n1 n2).trans (hf1 b n1 n2)
  have ec2 : V9 c = V c := hf3 c (by omega) (by omega)
  refine fs_aload_n (pc2 := 44) rfl rfl rfl rfl ?_
  refine fs_aload_n (pc2 := 45) rfl rfl rfl rfl ?_
  refine fs_aload_n (pc2 := 46) rfl rfl rfl rfl ?_
  refine fs_geti (pc2 := 49) rfl rfl rfl (by assumption) rfl ?_
  refine fs_iload_n (pc2 := 50) rfl rfl rfl rfl ?_
  refine fs_callv (pc2 := 53) rfl rfl rfl rfl ⟨rfl, rfl⟩ (Nat.le_of_ble_eq_true rfl) (Nat.le_of_ble_eq_true rfl) (Nat.le_of_ble_eq_true rfl) (fs_rcv rfl (by assumption)) (by rw [em, ec2, e11]; exact e_Row_addPart (by omega) (by omega) hr2 (ht0.kept (hf3 a (by omega) (by omega)) (hf3 (a + 1) (by omega) (by omega))) (by omega) (by omega) (by omega) (by simp; omega)) (fun v9 sh9 V9 n9 hp9 => ?_)
  obtain ⟨ea9, eb9, ec9, hr3, hf4⟩ := hp9
  cases ea9
  obtain rfl := eb9.symm
  obtain rfl := ec9.symm
  have hf5 : ∀ b, b ≠ q → b ≠ q + 1 → V9 b = V b := fun b n1 n2 => (hf4 b n1 n2).trans (hf3 b n1 n2)
  have ec3 : V9 c = V c := hf5 c (by omega) (by omega)
  have c0 : Chan sh V9 c y := hC.kept (fun b b1 b2 => hf5 b (by omega) (by omega))
  have k9 : V9 c 9 - 1 = nI (y.1 9 - 1) := by rw [ec3, e9]; exact pk_sub (b := 1) hcr
  have k11 : V9 c 11 + nI m = nI (y.1 11 + m) := by rw [ec3, e11, nI_add]
  have c1 := (c0.put (j := 9) (k := y.1 9 - 1) (by have := hC.2.1 9; omega) (by decide)).put (j := 11) (k := y.1 11 + m) (by omega) (by decide)
  have eV : up2 (up2 V9 c 9 (V9 c 9 - 1)) c 11 (up2 V9 c 9 (V9 c 9 - 1) c 11 + nI m) = up2 (up2 V9 c 9 (nI (y.1 9 - 1))) c 11 (nI (y.1 11 + m)) := by rw [k9, show up2 V9 c 9 (nI (y.1 9 - 1)) c 11 = V9 c 11 by simp [up2], k11]
  have hu : Row sh (up2 (up2 V9 c 9 (nI (y.1 9 - 1))) c 11 (nI (y.1 11 + m))) q 128 (ch_unit y t) := by
    have := hr3.kept (V' := up2 (up2 V9 c 9 (nI (y.1 9 - 1))) c 11 (nI (y.1 11 + m))) (by rw [up2_o (by omega), up2_o (by omega)]) (by rw [up2_o (by omega), up2_o (by omega)])
    unfold ch_unit
    rw [← hm]
    exact this
  refine fs_aload_n (pc2 := 54) rfl rfl rfl rfl ?_
  first | refine fs_dup_r (pc2 := 55) rfl rfl rfl ?_ | refine fs_dup_i (pc2 := 55) rfl rfl rfl ?_
  refine fs_geti (pc2 := 58) rfl rfl rfl (by assumption) rfl ?_
  refine fs_iconst (pc2 := 59) rfl rfl rfl ?_
  refine fs_isub (pc2 := 60) rfl rfl rfl ?_
  refine fs_puti (pc2 := 63) rfl rfl rfl (by assumption) rfl True.intro ?_
  refine fs_aload_n (pc2 := 64) rfl rfl rfl rfl ?_
  first | refine fs_dup_r (pc2 := 65) rfl rfl rfl ?_ | refine fs_dup_i (pc2 := 65) rfl rfl rfl ?_
  refine fs_geti (pc2 := 68) rfl rfl rfl (by assumption) rfl ?_
  refine fs_iload_n (pc2 := 69) rfl rfl rfl rfl ?_
  refine fs_iadd (pc2 := 70) rfl rfl rfl ?_
  refine fs_puti (pc2 := 73) rfl rfl rfl (by assumption) rfl True.intro ?_
  refine fs_aload_n (pc2 := 74) rfl rfl rfl rfl ?_
  refine fs_geti (pc2 := 77) rfl rfl rfl (by assumption) rfl ?_
  refine fs_aload_n (pc2 := 78) rfl rfl rfl rfl ?_
  refine fs_geti (pc2 := 81) rfl rfl rfl (by assumption) rfl ?_
  refine fs_icmp_lt (pc2 := 84) rfl rfl rfl (fun h81 => ?_) (fun h81 => ?_)
  · simp only [em] at h81 ⊢
    rw [eV] at h81 ⊢
    have k81 : y.1 11 + m < t.length := c_lt h81 (by simp [up2]) (by rw [up2_o (by omega), up2_o (by omega), hf5 a (by omega) (by omega), et])
    refine fs_ret rfl rfl ?_
    refine hP _ _ _ _ ⟨rfl, rfl, rfl, ?_, hu, fun b b1 b2 b3 => ?_⟩
    · unfold ch_write
      rw [← hm, if_pos k81]
      exact c1
    · rw [up2_o (by omega), up2_o (by omega), hf5 b (by omega) (by omega)]
  · simp only [em] at h81 ⊢
    rw [eV] at h81 ⊢
    have k81 : t.length ≤ y.1 11 + m := c_nlt h81 (by simp [up2]) (by rw [up2_o (by omega), up2_o (by omega), hf5 a (by omega) (by omega), et])
    refine fs_aload_n (pc2 := 85) rfl rfl rfl rfl ?_
    refine fs_getr (pc2 := 88) rfl rfl rfl (by assumption) rfl ?_
    refine fs_callv (pc2 := 91) rfl rfl rfl rfl ⟨rfl, rfl⟩ (Nat.le_of_ble_eq_true rfl) (Nat.le_of_ble_eq_true rfl) (Nat.le_of_ble_eq_true rfl) (fs_rcv rfl (by assumption)) (e_Texts_dropFirst (tx := ts) (h := h1) (most := 2) (room := 122) (xs := t) (by have := c1.2.2.2.2.2.1; exact (g6.kept (fun b b1 b2 => by rw [up2_o (by omega), up2_o (by omega), hf5 b (by omega) (by omega)])))) (fun v9 sh9 V9 n9 hp9 => ?_)
    obtain ⟨ea9, eb9, ec9, hT, hf6⟩ := hp9
    cases ea9
    obtain rfl := eb9.symm
    obtain rfl := ec9.symm
    obtain ⟨h9, hT⟩ := hT
    have c2 := (c1.putTx hT (fun b hb => hf6 b (by omega))).put (j := 11) (k := 0) (by decide) (by decide)
    refine fs_aload_n (pc2 := 92) rfl rfl rfl rfl ?_
    refine fs_iconst (pc2 := 93) rfl rfl rfl ?_
    refine fs_puti (pc2 := 96) rfl rfl rfl (by assumption) rfl True.intro ?_
    refine fs_ret rfl rfl ?_
    refine hP _ _ _ _ ⟨rfl, rfl, rfl, ?_, hu.kept (by rw [up2_o (by omega), hf6 _ (by omega)]) (by rw [up2_o (by omega), hf6 _ (by omega)]), fun b b1 b2 b3 => ?_⟩
    · unfold ch_write
      rw [← hm, if_neg (by omega)]
      have e2 : va_up (va_up (va_up y.1 9 (y.1 9 - 1)) 11 (y.1 11 + m)) 11 0 = va_up (va_up y.1 9 (y.1 9 - 1)) 11 0 := by funext i; unfold va_up; split <;> rfl
      rw [← e2]
      exact c2
    · rw [up2_o (by omega), hf6 b (by omega), up2_o (by omega), up2_o (by omega), hf5 b (by omega) (by omega)]
def ch_keep (y : Ch) : Bool × Ch := if y.2.2.2.1.length = 4 then (false, y) else (true, (y.1, none, y.2.2.1, y.2.2.2.1 ++ [y.2.2.2.2], []))
theorem e_Chan_keepB (hC : Chan sh V c y) : fl_M cy z0 ext (d + 4) m_X0_keepWholeText [.ref (z0 + c)] sh V n (fun v sh' V' n' => v = some (.int (bI (ch_keep y).1)) ∧ sh' = sh ∧ n' = n ∧ Chan sh V' c (ch_keep y).2 ∧ ∀ a, (a < c ∨ c + 19 ≤ a) → V' a = V a) := by
  unfold ch_keep
  split
  · next h =>
    refine (e_Chan_keep_no (d := d + 1) h hC).mono (fun v sh' V' n' hp => ?_)
    obtain ⟨rfl, rfl, rfl, rfl⟩ := hp
    exact ⟨rfl, rfl, rfl, hC, fun _ _ => rfl⟩
  · next h =>
    obtain ⟨h1, g6⟩ := hC.2.2.2.2.2.2.1
    have := g6.2.2.2.1
    exact e_Chan_keep (by omega) hC
/-- the rest of a segment goes behind what is gathered -/
def ch_read2 (y : Ch) (k : Nat) (zs : List Nat) : Bool × Ch := if k < y.2.2.2.2.length + zs.length then (false, y) else if y.2.2.2.2.length + zs.length < k then (true, (y.1, y.2.1, y.2.2.1, y.2.2.2.1, y.2.2.2.2 ++ zs)) else ch_keep (y.1, y.2.1, y.2.2.1, y.2.2.2.1, y.2.2.2.2 ++ zs)
/-- the segment of a unit is read; false: the channel leaves -/
def ch_read (y : Ch) (us : List Nat) : Bool × Ch := if y.1 5 = 0 ∨ us.length = 4 ∨ y.1 4 + 4 < us.length then (false, y) else match y.2.1 with
  | some k => ch_read2 (va_up y.1 5 (y.1 5 - 1), y.2) k (us.drop 4)
  | none => if us.length < 6 ∨ y.1 3 < num2 us 4 then (false, (va_up y.1 5 (y.1 5 - 1), y.2)) else ch_read2 (va_up y.1 5 (y.1 5 - 1), some (num2 us 4), y.2.2) (num2 us 4) (us.drop 6)
set_option maxRecDepth 100000 in
set_option maxHeartbeats 4000000 in
theorem e_Chan_readSegment {q : Nat} {us : List Nat} (hq : Row sh V q 128 us) (hd : q + 1 < c ∨ c + 19 ≤ q) (h4 : 4 ≤ us.length) (hmtu : y.1 3 ≤ 100) (hdue : ∀ k, y.2.1 = some k → k ≤ 100) (hC : Chan sh V c y) : fl_M cy z0 ext (d + 5) m_X0_readSegment [.ref (z0 + c), .ref (z0 + q)] sh V n (fun v sh' V' n' => v = some (.int (bI (ch_read y us).1)) ∧ sh' = sh ∧ n' = n ∧ Chan sh V' c (ch_read y us).2 ∧ ∀ a, (a < c ∨ c + 19 ≤ a) → V' a = V a) := by
  obtain ⟨s0, g2, g3, g4, g5, ⟨h1, g6⟩, ⟨h2, g7⟩, g8⟩ := id hC
  unfold isChan at s0
  obtain ⟨t0, ga, t1, ta⟩ := id g6.1
  obtain ⟨r0, gb, r1, rb⟩ := id g7.1
  obtain ⟨w0, w1⟩ := id g8.1
  obtain ⟨q0, q1⟩ := id hq.1
  obtain ⟨e5, l5⟩ := hC.i 5 (by omega)
  obtain ⟨e4, l4⟩ := hC.i 4 (by omega)
  obtain ⟨e3, l3⟩ := hC.i 3 (by omega)
  have eq1 : V q 1 = nI us.length := hq.2.2.2.2.1
  have lu : us.length ≤ 128 := hq.2.2.1
  have ln2 := num2_lt hq.2.2.2.1 4
  refine fs_body rfl rfl (fun Ret hP => ?_)
  have j79 : ∀ (V1 : fl_V) (s k : Nat) (w : Int32) (y1 : Ch), Chan sh V1 c y1 → y1.2.1 = some k → k ≤ 100 → 4 ≤ s → s ≤ us.length → ch_read y us = ch_read2 y1 k (us.drop s) → (∀ a, a ≠ c → V1 a = V a) → fl_R cy z0 (ev_M cy ext (d + 4)) 0 0 0 4 (some .boolean) kc_X0_readSegment Ret 79 [(0, .ref (z0 + c)), (1, .ref (z0 + q)), (2, .int w), (3, .int (nI s))] [] sh V1 n 0 0 := by
    clear hC g2 g3 g4 g5 g6 g7 g8 s0 t0 ga t1 ta r0 gb r1 rb w0 w1 e5 e4 e3 l5 l4 l3
    intro V1 s k w y1 hC hk hk100 hs4 hs hrd hv1
    obtain ⟨s0, g2, g3, g4, g5, ⟨h1, g6⟩, ⟨h2, g7⟩, g8⟩ := id hC
    unfold isChan at s0
    obtain ⟨w0, w1⟩ := id g8.1
    have eq2 : V1 q 1 = nI us.length := by rw [hv1 q (by omega)]; exact eq1
    have hq2 : Row sh V1 q 128 us := hq.kept (hv1 q (by omega)) (hv1 (q + 1) (by omega))
    have eg : V1 (c + 17) 1 = nI y1.2.2.2.2.length := g8.2.2.2.2.1
    have lg : y1.2.2.2.2.length ≤ 100 := g8.2.2.1
    have ed : V1 c 14 = nI k := by rw [g5, hk]; rfl
    have ld : (us.drop s).length = us.length - s := by simp
    have es : nI us.length - nI s = nI (us.length - s) := pk_sub hs
    have ez : V1 (c + 17) 1 + V1 q 1 - nI s = nI (y1.2.2.2.2.length + (us.length - s)) := by rw [eg, eq2, nI_add, pk_sub (by omega)]; congr 1; omega
    rw [hrd] at hP
    unfold ch_read2 at hP
    rw [ld] at hP
    refine fs_aload_n (pc2 := 80) rfl rfl rfl rfl ?_
    refine fs_getr (pc2 := 83) rfl rfl rfl (by assumption) rfl ?_
    refine fs_geti (pc2 := 86) rfl rfl rfl (by assumption) rfl ?_
    refine fs_aload_n (pc2 := 87) rfl rfl rfl rfl ?_
    refine fs_geti (pc2 := 90) rfl rfl rfl (by assumption) rfl ?_
    refine fs_iadd (pc2 := 91) rfl rfl rfl ?_
    refine fs_iload_n (pc2 := 92) rfl rfl rfl rfl ?_
    refine fs_isub (pc2 := 93) rfl rfl rfl ?_
    refine fs_aload_n (pc2 := 94) rfl rfl rfl rfl ?_
    refine fs_geti (pc2 := 97) rfl rfl rfl (by assumption) rfl ?_
    refine fs_icmp_le (pc2 := 100) rfl rfl rfl (fun h97 => ?_) (fun h97 => ?_)
    · have k97 : y1.2.2.2.2.length + (us.length - s) ≤ k := c_le h97 ez ed
      rw [if_neg (by omega)] at hP
      refine fs_aload_n (pc2 := 103) rfl rfl rfl rfl ?_
      refine fs_getr (pc2 := 106) rfl rfl rfl (by assumption) rfl ?_
      refine fs_aload_n (pc2 := 107) rfl rfl rfl rfl ?_
      refine fs_iload_n (pc2 := 108) rfl rfl rfl rfl ?_
      refine fs_aload_n (pc2 := 109) rfl rfl rfl rfl ?_
      refine fs_geti (pc2 := 112) rfl rfl rfl (by assumption) rfl ?_
      refine fs_iload_n (pc2 := 113) rfl rfl rfl rfl ?_
      refine fs_isub (pc2 := 114) rfl rfl rfl ?_
      refine fs_callv (pc2 := 117) rfl rfl rfl rfl ⟨rfl, rfl⟩ (Nat.le_of_ble_eq_true rfl) (Nat.le_of_ble_eq_true rfl) (Nat.le_of_ble_eq_true rfl) (fs_rcv rfl (by assumption)) (by rw [eq2, es]; exact e_Row_addPart (by omega) (by omega) g8 hq2 (by omega) (by omega) (by omega) (by simp; omega)) (fun v9 sh9 V9 n9 hp9 => ?_)
      obtain ⟨ea9, eb9, ec9, hr1, hf1⟩ := hp9
      cases ea9
      obtain rfl := eb9.symm
      obtain rfl := ec9.symm
      rw [List.take_of_length_le (by simp)] at hr1
      have c2 := hC.putGt hr1 (fun a ha => hf1 a (by omega) (by omega))
      have eg2 : V9 (c + 17) 1 = nI (y1.2.2.2.2.length + (us.length - s)) := by rw [hr1.2.2.2.2.1]; simp
      have ed2 : V9 c 14 = nI k := by rw [hf1 c (by omega) (by omega)]; exact ed
      refine fs_aload_n (pc2 := 118) rfl rfl rfl rfl ?_
      refine fs_getr (pc2 := 121) rfl rfl rfl (by assumption) rfl ?_
      refine fs_geti (pc2 := 124) rfl rfl rfl (by assumption) rfl ?_
      refine fs_aload_n (pc2 := 125) rfl rfl rfl rfl ?_
      refine fs_geti (pc2 := 128) rfl rfl rfl (by assumption) rfl ?_
      refine fs_icmp_lt (pc2 := 131) rfl rfl rfl (fun h128 => ?_) (fun h128 => ?_)
      · have k128 : y1.2.2.2.2.length + (us.length - s) < k := c_lt h128 eg2 ed2
        rw [if_pos k128] at hP
        refine fs_iconst (pc2 := 139) rfl rfl rfl ?_
        refine fs_goto rfl rfl ?_
        refine fs_iret rfl rfl (Or.inr rfl) ?_
        exact hP _ _ _ _ ⟨rfl, rfl, rfl, c2, fun a ha => by rw [hf1 a (by omega) (by omega), hv1 a (by omega)]⟩
      · have k128 : k ≤ y1.2.2.2.2.length + (us.length - s) := c_nlt h128 eg2 ed2
        rw [if_neg (by omega)] at hP
        refine fs_aload_n (pc2 := 132) rfl rfl rfl rfl ?_
        refine fs_callv (pc2 := 135) rfl rfl rfl rfl ⟨rfl, rfl⟩ (Nat.le_of_ble_eq_true rfl) (Nat.le_of_ble_eq_true rfl) (Nat.le_of_ble_eq_true rfl) (fs_rcv rfl (by assumption)) (e_Chan_keepB c2) (fun v9 sh9 V9 n9 hp9 => ?_)
        obtain ⟨ea9, eb9, ec9, c3, hf2⟩ := hp9
        cases ea9
        obtain rfl := eb9.symm
        obtain rfl := ec9.symm
        refine fs_if_eq (pc2 := 138) rfl rfl rfl (fun h135 => ?_) (fun h135 => ?_)
        · refine fs_iconst (pc2 := 143) rfl rfl rfl ?_
          refine fs_iret rfl rfl (Or.inl rfl) ?_
          refine hP _ _ _ _ ⟨?_, rfl, rfl, c3, fun a ha => by rw [hf2 a (by omega), hf1 a (by omega) (by omega), hv1 a (by omega)]⟩
          rw [show (ch_keep (y1.1, y1.2.1, y1.2.2.1, y1.2.2.2.1, y1.2.2.2.2 ++ us.drop s)).1 = false from bI_0.mp h135]
          rfl
        · refine fs_iconst (pc2 := 139) rfl rfl rfl ?_
          refine fs_goto rfl rfl ?_
          refine fs_iret rfl rfl (Or.inr rfl) ?_
          refine hP _ _ _ _ ⟨?_, rfl, rfl, c3, fun a ha => by rw [hf2 a (by omega), hf1 a (by omega) (by omega), hv1 a (by omega)]⟩
          rw [show (ch_keep (y1.1, y1.2.1, y1.2.2.1, y1.2.2.2.1, y1.2.2.2.2 ++ us.drop s)).1 = true from by cases hb : (ch_keep (y1.1, y1.2.1, y1.2.2.1, y1.2.2.2.1, y1.2.2.2.2 ++ us.drop s)).1 with | true => rfl | false => exact absurd (bI_0.mpr hb) h135]
          rfl
    · have k97 : k < y1.2.2.2.2.length + (us.length - s) := c_nle h97 ez ed
      rw [if_pos k97] at hP
      refine fs_iconst (pc2 := 101) rfl rfl rfl ?_
      refine fs_iret rfl rfl (Or.inl rfl) ?_
      exact hP _ _ _ _ ⟨rfl, rfl, rfl, hC, fun a ha => hv1 a (by omega)⟩
  have ez : V q 1 - 4 = nI (us.length - 4) := by rw [eq1]; exact pk_sub (b := 4) h4
  refine fs_aload_n (pc2 := 1) rfl rfl rfl rfl ?_
  refine fs_geti (pc2 := 4) rfl rfl rfl (by assumption) rfl ?_
  refine fs_iconst (pc2 := 5) rfl rfl rfl ?_
  refine fs_isub (pc2 := 6) rfl rfl rfl ?_
  refine fs_istore_n (pc2 := 7) rfl rfl rfl (Nat.le_of_ble_eq_true rfl) ?_
  refine fs_aload_n (pc2 := 8) rfl rfl rfl rfl ?_
  refine fs_geti (pc2 := 11) rfl rfl rfl (by assumption) rfl ?_
  refine fs_if_eq (pc2 := 14) rfl rfl rfl (fun h11 => ?_) (fun h11 => ?_)
  · have k11 : y.1 5 = 0 := c_eq h11 e5 rfl
    refine fs_iconst (pc2 := 27) rfl rfl rfl ?_
    refine fs_iret rfl rfl (Or.inl rfl) ?_
    have er : ch_read y us = (false, y) := by unfold ch_read; rw [if_pos (by omega)]
    exact hP _ _ _ _ ⟨by rw [er]; rfl, rfl, rfl, by rw [er]; exact hC, fun _ _ => rfl⟩
  · have k11 : y.1 5 ≠ 0 := c_ne h11 e5 rfl
    refine fs_iload_n (pc2 := 15) rfl rfl rfl rfl ?_
    refine fs_if_eq (pc2 := 18) rfl rfl rfl (fun h15 => ?_) (fun h15 => ?_)
    · have k15 : us.length - 4 = 0 := c_eq h15 ez rfl
      refine fs_iconst (pc2 := 27) rfl rfl rfl ?_
      refine fs_iret rfl rfl (Or.inl rfl) ?_
      have er : ch_read y us = (false, y) := by unfold ch_read; rw [if_pos (by omega)]
      exact hP _ _ _ _ ⟨by rw [er]; rfl, rfl, rfl, by rw [er]; exact hC, fun _ _ => rfl⟩
    · have k15 : us.length - 4 ≠ 0 := c_ne h15 ez rfl
      refine fs_iload_n (pc2 := 19) rfl rfl rfl rfl ?_
      refine fs_aload_n (pc2 := 20) rfl rfl rfl rfl ?_
      refine fs_geti (pc2 := 23) rfl rfl rfl (by assumption) rfl ?_
      refine fs_icmp_le (pc2 := 26) rfl rfl rfl (fun h23 => ?_) (fun h23 => ?_)
      · have k23 : us.length - 4 ≤ y.1 4 := c_le h23 ez e4
        refine fs_aload_n (pc2 := 29) rfl rfl rfl rfl ?_
        first | refine fs_dup_r (pc2 := 30) rfl rfl rfl ?_ | refine fs_dup_i (pc2 := 30) rfl rfl rfl ?_
        refine fs_geti (pc2 := 33) rfl rfl rfl (by assumption) rfl ?_
        refine fs_iconst (pc2 := 34) rfl rfl rfl ?_
        refine fs_isub (pc2 := 35) rfl rfl rfl ?_
        refine fs_puti (pc2 := 38) rfl rfl rfl (by assumption) rfl True.intro ?_
        refine fs_iconst (pc2 := 39) rfl rfl rfl ?_
        refine fs_istore_n (pc2 := 40) rfl rfl rfl (Nat.le_of_ble_eq_true rfl) ?_
        refine fs_aload_n (pc2 := 41) rfl rfl rfl rfl ?_
        refine fs_geti (pc2 := 44) rfl rfl rfl (by assumption) rfl ?_
        refine fs_iconst (pc2 := 45) rfl rfl rfl ?_
        refine fs_icmp_ne (pc2 := 48) rfl rfl rfl (fun h45 => ?_) (fun h45 => ?_)
        · have hC1 := hC.put (j := 5) (k := y.1 5 - 1) (by have := hC.2.1 5; omega) (by decide)
          have e51 : V c 5 - 1 = nI (y.1 5 - 1) := by rw [e5]; exact pk_sub (b := 1) (by omega)
          rw [e51] at h45 ⊢
          rw [show up2 V c 5 (nI (y.1 5 - 1)) c 14 = V c 14 by simp [up2], g5] at h45
          obtain ⟨k, hk⟩ : ∃ k, y.2.1 = some k := by
            cases hk : y.2.1 with
            | none => rw [hk] at h45; exact absurd rfl h45
            | some k => exact ⟨k, rfl⟩
          exact j79 _ 4 k _ (va_up y.1 5 (y.1 5 - 1), y.2) hC1 hk (hdue k hk) (by omega) h4 (by unfold ch_read; rw [if_neg (by omega), hk]) (fun a ha => up2_o ha)
        · have hC1 := hC.put (j := 5) (k := y.1 5 - 1) (by have := hC.2.1 5; omega) (by decide)
          have e51 : V c 5 - 1 = nI (y.1 5 - 1) := by rw [e5]; exact pk_sub (b := 1) (by omega)
          rw [e51] at h45 ⊢
          rw [show up2 V c 5 (nI (y.1 5 - 1)) c 14 = V c 14 by simp [up2], g5] at h45
          have hk : y.2.1 = none := by
            cases hk : y.2.1 with
            | none => rfl
            | some k =>
              rw [hk] at h45
              have := hdue k hk
              exact absurd h45 (fun z => by have := congrArg Int32.toInt z; rw [show dueI (some k) = nI k from rfl, nI_toInt (by omega)] at this; simp at this)
          refine fs_iload_n (pc2 := 49) rfl rfl rfl rfl ?_
          refine fs_iconst (pc2 := 50) rfl rfl rfl ?_
          refine fs_icmp_lt (pc2 := 53) rfl rfl rfl (fun h50 => ?_) (fun h50 => ?_)
          · have k50 : us.length - 4 < 2 := c_lt h50 ez rfl
            refine fs_iconst (pc2 := 66) rfl rfl rfl ?_
            refine fs_iret rfl rfl (Or.inl rfl) ?_
            have er : ch_read y us = (false, (va_up y.1 5 (y.1 5 - 1), y.2)) := by unfold ch_read; rw [if_neg (by omega), hk]; dsimp only; rw [if_pos (by omega)]
            exact hP _ _ _ _ ⟨by rw [er]; rfl, rfl, rfl, by rw [er]; exact hC1, fun a ha => up2_o (by omega)⟩
          · have k50 : 2 ≤ us.length - 4 := c_nlt h50 ez rfl
            refine fs_aload_n (pc2 := 54) rfl rfl rfl rfl ?_
            refine fs_iconst (pc2 := 55) rfl rfl rfl ?_
            refine fs_callv (pc2 := 58) rfl rfl rfl rfl ⟨rfl, rfl⟩ (Nat.le_of_ble_eq_true rfl) (Nat.le_of_ble_eq_true rfl) (Nat.le_of_ble_eq_true rfl) (fs_rcv rfl (by assumption)) (e_Row_numberAt (j := 4) (by decide) (hq.kept (up2_o (by omega)) (up2_o (by omega)))) (fun v9 sh9 V9 n9 hp9 => ?_)
            obtain ⟨ea9, eb9, ec9, hv9⟩ := hp9
            cases ea9
            obtain rfl := eb9.symm
            obtain rfl := ec9.symm
            cases hv9
            refine fs_aload_n (pc2 := 59) rfl rfl rfl rfl ?_
            refine fs_geti (pc2 := 62) rfl rfl rfl (by assumption) rfl ?_
            refine fs_icmp_le (pc2 := 65) rfl rfl rfl (fun h62 => ?_) (fun h62 => ?_)
            · rw [show up2 V c 5 (nI (y.1 5 - 1)) c 3 = V c 3 by simp [up2]] at h62
              have k62 : num2 us 4 ≤ y.1 3 := c_le h62 rfl e3
              refine fs_aload_n (pc2 := 68) rfl rfl rfl rfl ?_
              refine fs_aload_n (pc2 := 69) rfl rfl rfl rfl ?_
              refine fs_iconst (pc2 := 70) rfl rfl rfl ?_
              refine fs_callv (pc2 := 73) rfl rfl rfl rfl ⟨rfl, rfl⟩ (Nat.le_of_ble_eq_true rfl) (Nat.le_of_ble_eq_true rfl) (Nat.le_of_ble_eq_true rfl) (fs_rcv rfl (by assumption)) (e_Row_numberAt (j := 4) (by decide) (hq.kept (up2_o (by omega)) (up2_o (by omega)))) (fun v9 sh9 V9 n9 hp9 => ?_)
              obtain ⟨ea9, eb9, ec9, hv9⟩ := hp9
              cases ea9
              obtain rfl := eb9.symm
              obtain rfl := ec9.symm
              cases hv9
              refine fs_puti (pc2 := 76) rfl rfl rfl (by assumption) rfl True.intro ?_
              refine fs_iinc (pc2 := 79) rfl rfl rfl (Nat.le_of_ble_eq_true rfl) rfl ?_
              exact j79 _ 6 (num2 us 4) _ (va_up y.1 5 (y.1 5 - 1), some (num2 us 4), y.2.2) (hC1.putDue (e := some (num2 us 4)) (fun k hk => by cases hk; exact ln2)) rfl (by omega) (by omega) (by omega) (by unfold ch_read; rw [if_neg (by omega), hk]; dsimp only; rw [if_neg (by omega)]) (fun a ha => by rw [up2_o ha, up2_o ha])
            · rw [show up2 V c 5 (nI (y.1 5 - 1)) c 3 = V c 3 by simp [up2]] at h62
              have k62 : y.1 3 < num2 us 4 := c_nle h62 rfl e3
              refine fs_iconst (pc2 := 66) rfl rfl rfl ?_
              refine fs_iret rfl rfl (Or.inl rfl) ?_
              have er : ch_read y us = (false, (va_up y.1 5 (y.1 5 - 1), y.2)) := by unfold ch_read; rw [if_neg (by omega), hk]; dsimp only; rw [if_pos (by omega)]
              exact hP _ _ _ _ ⟨by rw [er]; rfl, rfl, rfl, by rw [er]; exact hC1, fun a ha => up2_o (by omega)⟩
      · have k23 : y.1 4 < us.length - 4 := c_nle h23 ez e4
        refine fs_iconst (pc2 := 27) rfl rfl rfl ?_
        refine fs_iret rfl rfl (Or.inl rfl) ?_
        have er : ch_read y us = (false, y) := by unfold ch_read; rw [if_pos (by omega)]
        exact hP _ _ _ _ ⟨by rw [er]; rfl, rfl, rfl, by rw [er]; exact hC, fun _ _ => rfl⟩
end CHAN3
