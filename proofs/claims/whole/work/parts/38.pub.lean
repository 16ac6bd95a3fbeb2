/-! CreditLink's methods where they do not throw -/
def fbyte (a b c d : Int32) (j : Nat) : Nat := bt8 ((if j < 4 then a else if j < 8 then b else if j < 12 then c else d) >>> ((24 - 8 * nI (j % 4)) &&& 31))
def txPut (y : Ch) (S : List Nat) : Ch := (y.1, y.2.1, y.2.2.1 ++ [[S.length % 256, S.length / 256] ++ S], y.2.2.2)
def rxDrop (y : Ch) (rx : List (List Nat)) : Ch := (y.1, y.2.1, y.2.2.1, rx, y.2.2.2.2)
/-- what a packet does with its host -/
def ho_take (H : Ho) (y : Pkt) (ps : List Pkt) : Ho := hoW (if (ho_gath H y.1 y.2.2).1 = true then ho_unitH (ho_gath H y.1 y.2.2).2 else (ho_gath H y.1 y.2.2).2) ps
def injUnit (S : List Nat) (num more : Nat) : List Nat := two (S.length + more) ++ two num ++ S
def injPk (U : List Nat) (j : Nat) : Pkt := (decide (j * 27 = 0), false, (U.drop (j * 27)).take 27)
def chVal (y : Ch) (w : Nat) : Nat := if w = 0 then y.1 1 else if w = 1 then y.1 6 else if w = 2 then y.1 9 else if w = 3 then y.1 5 else if w = 4 then y.2.2.1.length else if w = 5 then y.2.2.2.1.length else if w = 6 then y.1 7 else y.1 8
def cntVal (H O : Ho) (w : Nat) : Nat := if w = 0 then 4 - sents O.2.2.2.1 else if w = 1 then H.2.2.2.1.length else if w = 2 then H.2.2.2.2.1.length else if w = 3 then H.1 11 else if w = 4 then H.1 12 else if w = 5 then H.1 13 else H.2.2.2.2.2.2.length
section PUB
variable {cy : Nat → ClassId} {z0 : Nat} {ext : Nat → Nat → List Value → ev_H → Nat → ev_P → Prop} {d : Nat} {sh sh' : fl_S} {V V' : fl_V} {n n' K a0 c : Nat} {E : Nat → Nat} {R : Nat → List Nat} {S : List Nat} {HH : Nat → Ho}
set_option maxRecDepth 100000 in
set_option maxHeartbeats 4000000 in
theorem e_erase (hL : CL sh V n K a0 c E R S HH) : fl_M cy z0 ext (d + 2) m_X6_erase [.ref (z0 + c)] sh V n (fun v sh' V' n' => v = some (.int (nI S.length)) ∧ (∃ E' R', CL sh' V' n' K a0 c E' R' [] HH) ∧ FC c K sh V n sh' V' n') := by
  obtain ⟨u1, ⟨gu, u2, u3⟩, u4, u5, ⟨ixs, u6⟩, u7, u8, u9⟩ := id hL
  unfold isCL at u1
  obtain ⟨so1, so2⟩ := id u5.1
  obtain ⟨io1, io2⟩ := id u6.1
  have lS : S.length ≤ 120 := u5.2.2.1
  have eS : V (c + 370) 1 = nI S.length := u5.2.2.2.2.1
  refine fs_body rfl rfl (fun Ret hP => ?_)
  refine fs_aload_n (pc2 := 1) rfl rfl rfl rfl ?_
  refine fs_getr (pc2 := 4) rfl rfl rfl (by assumption) rfl ?_
  refine fs_geti (pc2 := 7) rfl rfl rfl (by assumption) rfl ?_
  refine fs_istore_n (pc2 := 8) rfl rfl rfl (Nat.le_of_ble_eq_true rfl) ?_
  refine fs_aload_n (pc2 := 9) rfl rfl rfl rfl ?_
  refine fs_getr (pc2 := 12) rfl rfl rfl (by assumption) rfl ?_
  refine fs_callv (pc2 := 15) rfl rfl rfl rfl ⟨rfl, rfl⟩ (Nat.le_of_ble_eq_true rfl) (Nat.le_of_ble_eq_true rfl) (Nat.le_of_ble_eq_true rfl) (fs_rcv rfl (by assumption)) (e_Row_clear u5) (fun v9 sh9 V9 n9 hp9 => ?_)
  obtain ⟨ea9, eb9, ec9, hr, hf⟩ := hp9
  cases ea9
  obtain rfl := eb9.symm
  obtain rfl := ec9.symm
  obtain ⟨L1, F1⟩ := hL.putS hr (fun a a1 a2 => hf a a1)
  refine fs_iload_n (pc2 := 16) rfl rfl rfl rfl ?_
  refine fs_iret rfl rfl True.intro ?_
  exact hP _ _ _ _ ⟨by rw [eS], ⟨E, R, L1⟩, F1⟩
set_option maxRecDepth 100000 in
set_option maxHeartbeats 4000000 in
theorem e_octet (hL : CL sh V n K a0 c E R S HH) {u : Int32} : fl_M cy z0 ext (d + 2) m_X6_octet [.ref (z0 + c), .int u] sh V n (fun v sh' V' n' => v = some (.int (if 0 ≤ u ∧ u < nI S.length then nI (S.getD u.toNatClampNeg 0) else -1)) ∧ sh' = sh ∧ n' = n ∧ V' = V) := by
  obtain ⟨u1, ⟨gu, u2, u3⟩, u4, u5, ⟨ixs, u6⟩, u7, u8, u9⟩ := id hL
  unfold isCL at u1
  obtain ⟨so1, so2⟩ := id u5.1
  obtain ⟨io1, io2⟩ := id u6.1
  have lS : S.length ≤ 120 := u5.2.2.1
  have eS : V (c + 370) 1 = nI S.length := u5.2.2.2.2.1
  refine fs_body rfl rfl (fun Ret hP => ?_)
  refine fs_aload_n (pc2 := 1) rfl rfl rfl rfl ?_
  refine fs_getr (pc2 := 4) rfl rfl rfl (by assumption) rfl ?_
  refine fs_iload_n (pc2 := 5) rfl rfl rfl rfl ?_
  refine fs_callv (pc2 := 8) rfl rfl rfl rfl ⟨rfl, rfl⟩ (Nat.le_of_ble_eq_true rfl) (Nat.le_of_ble_eq_true rfl) (Nat.le_of_ble_eq_true rfl) (fs_rcv rfl (by assumption)) (e_Row_at u5) (fun v9 sh9 V9 n9 hp9 => ?_)
  obtain ⟨ea9, eb9, ec9, hv9⟩ := hp9
  cases ea9
  obtain rfl := eb9.symm
  obtain rfl := ec9.symm
  cases hv9
  refine fs_iret rfl rfl True.intro ?_
  exact hP _ _ _ _ ⟨rfl, rfl, rfl, rfl⟩
set_option maxRecDepth 100000 in
set_option maxHeartbeats 4000000 in
theorem e_service (hL : CL sh V n K a0 c E R S HH) {i : Nat} (hi : i < 2) {s m p k : Nat} (hs : s < 10) (hm : m < 65536) (hp : p < 65536) (hk : k < 65536) (hof : isOfferB (nI s) (nI m) (nI p) (nI k) = true) : fl_M cy z0 ext (d + 2) m_X6_service [.ref (z0 + c), .int (nI i), .int (nI s), .int (nI m), .int (nI p), .int (nI k)] sh V n (fun v sh' V' n' => v = none ∧ (∃ E' R', CL sh' V' n' K a0 c E' R' S (va_up HH i (ho_tell (HH i) s m p k))) ∧ FC c K sh V n sh' V' n') := by
  obtain ⟨u1, ⟨gu, u2, u3⟩, u4, u5, ⟨ixs, u6⟩, u7, u8, u9⟩ := id hL
  unfold isCL at u1
  obtain ⟨so1, so2⟩ := id u5.1
  obtain ⟨io1, io2⟩ := id u6.1
  have lS : S.length ≤ 120 := u5.2.2.1
  have eS : V (c + 370) 1 = nI S.length := u5.2.2.2.2.1
  have hHo : isHostB (nI i) = true := by rcases i with _ | _ | i <;> first | rfl | omega
  have hi1 : vp_in (nI i) 2 := vp_in_nI hi (by decide)
  have hi2 : gu (nI i).toNatClampNeg = some (c + 2 + 184 * i) := by rw [nI_clamp (by omega)]; exact u3 i hi
  have hH := u4 i hi
  obtain ⟨hb, hhb⟩ : ∃ hb, hb = c + 2 + 184 * i := ⟨_, rfl⟩
  rw [← hhb] at hH hi2
  obtain ⟨⟨f1, ⟨gc, f2, f3⟩, f4, f5, f6⟩, HC, HS, ⟨wh, HW⟩, HQ, HB, HG, HI⟩ := id hH
  unfold isHo at f1
  refine fs_body rfl rfl (fun Ret hP => ?_)
  refine fs_iload_n (pc2 := 1) rfl rfl rfl rfl ?_
  refine fs_calls (pc2 := 4) rfl rfl rfl rfl rfl rfl ⟨rfl, rfl⟩ (Nat.le_of_ble_eq_true rfl) (Nat.le_of_ble_eq_true rfl) (Nat.le_of_ble_eq_true rfl) (e_isHost (u := nI i)) (fun v9 sh9 V9 n9 hp9 => ?_)
  obtain ⟨ea9, eb9, ec9, hv9⟩ := hp9
  cases ea9
  obtain rfl := eb9.symm
  obtain rfl := ec9.symm
  cases hv9
  rw [hHo]
  refine fs_if_eq (pc2 := 7) rfl rfl rfl (fun h4 => ?_) (fun h4 => ?_)
  · exact absurd h4 (by decide)
  · refine fs_iload_n (pc2 := 8) rfl rfl rfl rfl ?_
    refine fs_iload_n (pc2 := 9) rfl rfl rfl rfl ?_
    refine fs_iload (pc2 := 11) rfl rfl rfl rfl ?_
    refine fs_iload (pc2 := 13) rfl rfl rfl rfl ?_
    refine fs_calls (pc2 := 16) rfl rfl rfl rfl rfl rfl ⟨rfl, rfl⟩ (Nat.le_of_ble_eq_true rfl) (Nat.le_of_ble_eq_true rfl) (Nat.le_of_ble_eq_true rfl) (e_isOffer (s := nI s) (m := nI m) (p := nI p) (k := nI k)) (fun v9 sh9 V9 n9 hp9 => ?_)
    obtain ⟨ea9, eb9, ec9, hv9⟩ := hp9
    cases ea9
    obtain rfl := eb9.symm
    obtain rfl := ec9.symm
    cases hv9
    rw [hof]
    refine fs_if_ne (pc2 := 19) rfl rfl rfl (fun h16 => ?_) (fun h16 => ?_)
    · refine fs_aload_n (pc2 := 28) rfl rfl rfl rfl ?_
      refine fs_getr (pc2 := 31) rfl rfl rfl (by assumption) rfl ?_
      refine fs_iload_n (pc2 := 32) rfl rfl rfl rfl ?_
      refine fs_aald (pc2 := 33) rfl rfl rfl (by assumption) hi1 hi2 ?_
      refine fs_iload_n (pc2 := 34) rfl rfl rfl rfl ?_
      refine fs_iload_n (pc2 := 35) rfl rfl rfl rfl ?_
      refine fs_iload (pc2 := 37) rfl rfl rfl rfl ?_
      refine fs_iload (pc2 := 39) rfl rfl rfl rfl ?_
      refine fs_callv (pc2 := 42) rfl rfl rfl rfl ⟨rfl, rfl⟩ (Nat.le_of_ble_eq_true rfl) (Nat.le_of_ble_eq_true rfl) (Nat.le_of_ble_eq_true rfl) (fs_rcv rfl (by assumption)) (e_tellService hs hm hp hk hH) (fun v9 sh9 V9 n9 hp9 => ?_)
      obtain ⟨ea9, eb9, ec9, k1, hf⟩ := hp9
      cases ea9
      obtain rfl := eb9.symm
      obtain rfl := ec9.symm
      rw [hhb] at k1 hf
      obtain ⟨L1, F1⟩ := hL.putB hi k1 (Fr.same hf)
      refine fs_ret rfl rfl ?_
      exact hP _ _ _ _ ⟨rfl, ⟨_, _, L1⟩, F1⟩
    · exact absurd h16 (by decide)
set_option maxRecDepth 100000 in
set_option maxHeartbeats 4000000 in
theorem e_connect_full (hL : CL sh V n K a0 c E R S HH) (hA : AlOK cy z0 a0 ext) (hS : SI2 HH) {i : Nat} (hi : i < 2) (hcl : ho_closed (HH i) = none) {s m p cr : Nat} (hs : s < 65536) (hm : m < 65536) (hp : p < 65536) (hcr : cr < 65536) (hof : isOfferB (nI s) (nI m) (nI p) (nI cr) = true) : fl_M cy z0 ext (d + 13) m_X6_connect [.ref (z0 + c), .int (nI i), .int (nI s), .int (nI m), .int (nI p), .int (nI cr)] sh V n (fun v sh' V' n' => v = some (.int (-2)) ∧ (∃ E' R', CL sh' V' n' K a0 c E' R' S (st_send HH)) ∧ FC c K sh V n sh' V' n') := by
  obtain ⟨u1, ⟨gu, u2, u3⟩, u4, u5, ⟨ixs, u6⟩, u7, u8, u9⟩ := id hL
  unfold isCL at u1
  obtain ⟨so1, so2⟩ := id u5.1
  obtain ⟨io1, io2⟩ := id u6.1
  have lS : S.length ≤ 120 := u5.2.2.1
  have eS : V (c + 370) 1 = nI S.length := u5.2.2.2.2.1
  have hHo : isHostB (nI i) = true := by rcases i with _ | _ | i <;> first | rfl | omega
  have hi1 : vp_in (nI i) 2 := vp_in_nI hi (by decide)
  have hi2 : gu (nI i).toNatClampNeg = some (c + 2 + 184 * i) := by rw [nI_clamp (by omega)]; exact u3 i hi
  have hH := u4 i hi
  obtain ⟨hb, hhb⟩ : ∃ hb, hb = c + 2 + 184 * i := ⟨_, rfl⟩
  rw [← hhb] at hH hi2
  obtain ⟨⟨f1, ⟨gc, f2, f3⟩, f4, f5, f6⟩, HC, HS, ⟨wh, HW⟩, HQ, HB, HG, HI⟩ := id hH
  unfold isHo at f1
  refine fs_body rfl rfl (fun Ret hP => ?_)
  refine fs_iload_n (pc2 := 1) rfl rfl rfl rfl ?_
  refine fs_calls (pc2 := 4) rfl rfl rfl rfl rfl rfl ⟨rfl, rfl⟩ (Nat.le_of_ble_eq_true rfl) (Nat.le_of_ble_eq_true rfl) (Nat.le_of_ble_eq_true rfl) (e_isHost (u := nI i)) (fun v9 sh9 V9 n9 hp9 => ?_)
  obtain ⟨ea9, eb9, ec9, hv9⟩ := hp9
  cases ea9
  obtain rfl := eb9.symm
  obtain rfl := ec9.symm
  cases hv9
  rw [hHo]
  refine fs_if_eq (pc2 := 7) rfl rfl rfl (fun h4 => ?_) (fun h4 => ?_)
  · exact absurd h4 (by decide)
  · refine fs_iload_n (pc2 := 8) rfl rfl rfl rfl ?_
    refine fs_iload_n (pc2 := 9) rfl rfl rfl rfl ?_
    refine fs_iload (pc2 := 11) rfl rfl rfl rfl ?_
    refine fs_iload (pc2 := 13) rfl rfl rfl rfl ?_
    refine fs_calls (pc2 := 16) rfl rfl rfl rfl rfl rfl ⟨rfl, rfl⟩ (Nat.le_of_ble_eq_true rfl) (Nat.le_of_ble_eq_true rfl) (Nat.le_of_ble_eq_true rfl) (e_isOffer (s := nI s) (m := nI m) (p := nI p) (k := nI cr)) (fun v9 sh9 V9 n9 hp9 => ?_)
    obtain ⟨ea9, eb9, ec9, hv9⟩ := hp9
    cases ea9
    obtain rfl := eb9.symm
    obtain rfl := ec9.symm
    cases hv9
    rw [hof]
    refine fs_if_ne (pc2 := 19) rfl rfl rfl (fun h16 => ?_) (fun h16 => ?_)
    · refine fs_aload_n (pc2 := 28) rfl rfl rfl rfl ?_
      refine fs_getr (pc2 := 31) rfl rfl rfl (by assumption) rfl ?_
      refine fs_iload_n (pc2 := 32) rfl rfl rfl rfl ?_
      refine fs_aald (pc2 := 33) rfl rfl rfl (by assumption) hi1 hi2 ?_
      refine fs_iload_n (pc2 := 34) rfl rfl rfl rfl ?_
      refine fs_iload_n (pc2 := 35) rfl rfl rfl rfl ?_
      refine fs_iload (pc2 := 37) rfl rfl rfl rfl ?_
      refine fs_iload (pc2 := 39) rfl rfl rfl rfl ?_
      refine fs_callv (pc2 := 42) rfl rfl rfl rfl ⟨rfl, rfl⟩ (Nat.le_of_ble_eq_true rfl) (Nat.le_of_ble_eq_true rfl) (Nat.le_of_ble_eq_true rfl) (fs_rcv rfl (by assumption)) (e_ask_full hcl hH) (fun v9 sh9 V9 n9 hp9 => ?_)
      obtain ⟨ea9, eb9, ec9, hv9⟩ := hp9
      cases ea9
      obtain rfl := eb9.symm
      obtain rfl := ec9.symm
      cases hv9
      refine fs_istore (pc2 := 44) rfl rfl rfl (Nat.le_of_ble_eq_true rfl) ?_
      refine fs_aload_n (pc2 := 45) rfl rfl rfl rfl ?_
      refine fs_callv (pc2 := 48) rfl rfl rfl rfl ⟨rfl, rfl⟩ (Nat.le_of_ble_eq_true rfl) (Nat.le_of_ble_eq_true rfl) (Nat.le_of_ble_eq_true rfl) (fs_rcv rfl (by assumption)) (e_sendWhatCanGo hL hA hS) (fun v9 sh9 V9 n9 hp9 => ?_)
      obtain ⟨ea9, eb9, ⟨R9, L9⟩, F9⟩ := hp9
      cases ea9
      obtain rfl := eb9.symm
      refine fs_iload (pc2 := 50) rfl rfl rfl rfl ?_
      refine fs_iret rfl rfl True.intro ?_
      exact hP _ _ _ _ ⟨rfl, ⟨_, _, L9⟩, F9⟩
    · exact absurd h16 (by decide)
set_option maxRecDepth 100000 in
set_option maxHeartbeats 4000000 in
theorem e_connect (hL : CL sh V n K a0 c E R S HH) (hA : AlOK cy z0 a0 ext) {i : Nat} (hi : i < 2) {k : Nat} (hcl : ho_closed (HH i) = some k) (h9 : (HH i).1 9 ≤ 255) (hlen : (HH i).2.2.2.2.1.length < 512) {s m p cr : Nat} (hs : s < 65536) (hm : m < 65536) (hp : p < 65536) (hcr : cr < 65536) (hof : isOfferB (nI s) (nI m) (nI p) (nI cr) = true) (hS : SI2 (va_up HH i (ho_ask (HH i) k s m p cr))) : fl_M cy z0 ext (d + 13) m_X6_connect [.ref (z0 + c), .int (nI i), .int (nI s), .int (nI m), .int (nI p), .int (nI cr)] sh V n (fun v sh' V' n' => v = some (.int (nI (64 + k))) ∧ (∃ E' R', CL sh' V' n' K a0 c E' R' S (st_send (va_up HH i (ho_ask (HH i) k s m p cr)))) ∧ FC c K sh V n sh' V' n') := by
  obtain ⟨u1, ⟨gu, u2, u3⟩, u4, u5, ⟨ixs, u6⟩, u7, u8, u9⟩ := id hL
  unfold isCL at u1
  obtain ⟨so1, so2⟩ := id u5.1
  obtain ⟨io1, io2⟩ := id u6.1
  have lS : S.length ≤ 120 := u5.2.2.1
  have eS : V (c + 370) 1 = nI S.length := u5.2.2.2.2.1
  have hHo : isHostB (nI i) = true := by rcases i with _ | _ | i <;> first | rfl | omega
  have hi1 : vp_in (nI i) 2 := vp_in_nI hi (by decide)
  have hi2 : gu (nI i).toNatClampNeg = some (c + 2 + 184 * i) := by rw [nI_clamp (by omega)]; exact u3 i hi
  have hH := u4 i hi
  obtain ⟨hb, hhb⟩ : ∃ hb, hb = c + 2 + 184 * i := ⟨_, rfl⟩
  rw [← hhb] at hH hi2
  obtain ⟨⟨f1, ⟨gc, f2, f3⟩, f4, f5, f6⟩, HC, HS, ⟨wh, HW⟩, HQ, HB, HG, HI⟩ := id hH
  unfold isHo at f1
  have hk4 := (first4_lt hcl).1
  refine fs_body rfl rfl (fun Ret hP => ?_)
  refine fs_iload_n (pc2 := 1) rfl rfl rfl rfl ?_
  refine fs_calls (pc2 := 4) rfl rfl rfl rfl rfl rfl ⟨rfl, rfl⟩ (Nat.le_of_ble_eq_true rfl) (Nat.le_of_ble_eq_true rfl) (Nat.le_of_ble_eq_true rfl) (e_isHost (u := nI i)) (fun v9 sh9 V9 n9 hp9 => ?_)
  obtain ⟨ea9, eb9, ec9, hv9⟩ := hp9
  cases ea9
  obtain rfl := eb9.symm
  obtain rfl := ec9.symm
  cases hv9
  rw [hHo]
  refine fs_if_eq (pc2 := 7) rfl rfl rfl (fun h4 => ?_) (fun h4 => ?_)
  · exact absurd h4 (by decide)
  · refine fs_iload_n (pc2 := 8) rfl rfl rfl rfl ?_
    refine fs_iload_n (pc2 := 9) rfl rfl rfl rfl ?_
    refine fs_iload (pc2 := 11) rfl rfl rfl rfl ?_
    refine fs_iload (pc2 := 13) rfl rfl rfl rfl ?_
    refine fs_calls (pc2 := 16) rfl rfl rfl rfl rfl rfl ⟨rfl, rfl⟩ (Nat.le_of_ble_eq_true rfl) (Nat.le_of_ble_eq_true rfl) (Nat.le_of_ble_eq_true rfl) (e_isOffer (s := nI s) (m := nI m) (p := nI p) (k := nI cr)) (fun v9 sh9 V9 n9 hp9 => ?_)
    obtain ⟨ea9, eb9, ec9, hv9⟩ := hp9
    cases ea9
    obtain rfl := eb9.symm
    obtain rfl := ec9.symm
    cases hv9
    rw [hof]
    refine fs_if_ne (pc2 := 19) rfl rfl rfl (fun h16 => ?_) (fun h16 => ?_)
    · refine fs_aload_n (pc2 := 28) rfl rfl rfl rfl ?_
      refine fs_getr (pc2 := 31) rfl rfl rfl (by assumption) rfl ?_
      refine fs_iload_n (pc2 := 32) rfl rfl rfl rfl ?_
      refine fs_aald (pc2 := 33) rfl rfl rfl (by assumption) hi1 hi2 ?_
      refine fs_iload_n (pc2 := 34) rfl rfl rfl rfl ?_
      refine fs_iload_n (pc2 := 35) rfl rfl rfl rfl ?_
      refine fs_iload (pc2 := 37) rfl rfl rfl rfl ?_
      refine fs_iload (pc2 := 39) rfl rfl rfl rfl ?_
      refine fs_callv (pc2 := 42) rfl rfl rfl rfl ⟨rfl, rfl⟩ (Nat.le_of_ble_eq_true rfl) (Nat.le_of_ble_eq_true rfl) (Nat.le_of_ble_eq_true rfl) (fs_rcv rfl (by assumption)) (e_ask hA h9 hlen hk4 hcl hs hm hp hcr hH) (fun v9 sh9 V9 n9 hp9 => ?_)
      obtain ⟨ea9, e1, rs1, k1, fr⟩ := hp9
      cases ea9
      rw [hhb] at k1 fr
      obtain ⟨L1, F1⟩ := hL.putB hi k1 fr
      obtain ⟨u1x, ⟨gux, u2x, u3x⟩, u4x, u5x, ⟨ixsx, u6x⟩, u7x, u8x, u9x⟩ := id L1
      unfold isCL at u1x
      obtain ⟨so1x, so2x⟩ := id u5x.1
      obtain ⟨io1x, io2x⟩ := id u6x.1
      refine fs_istore (pc2 := 44) rfl rfl rfl (Nat.le_of_ble_eq_true rfl) ?_
      refine fs_aload_n (pc2 := 45) rfl rfl rfl rfl ?_
      refine fs_callv (pc2 := 48) rfl rfl rfl rfl ⟨rfl, rfl⟩ (Nat.le_of_ble_eq_true rfl) (Nat.le_of_ble_eq_true rfl) (Nat.le_of_ble_eq_true rfl) (fs_rcv rfl (by assumption)) (e_sendWhatCanGo L1 hA hS) (fun v9 sh9 V9 n9 hp9 => ?_)
      obtain ⟨ea9, eb9, ⟨R9, L9⟩, F9⟩ := hp9
      cases ea9
      obtain rfl := eb9.symm
      refine fs_iload (pc2 := 50) rfl rfl rfl rfl ?_
      refine fs_iret rfl rfl True.intro ?_
      exact hP _ _ _ _ ⟨rfl, ⟨_, _, L9⟩, F1.trans F9⟩
    · exact absurd h16 (by decide)
set_option maxRecDepth 100000 in
set_option maxHeartbeats 4000000 in
theorem e_leave (hL : CL sh V n K a0 c E R S HH) (hA : AlOK cy z0 a0 ext) {i : Nat} (hi : i < 2) {k : Nat} (hk : k < 4) (hst : ((HH i).2.1 k).1 1 = 2) (h9 : (HH i).1 9 ≤ 255) (hlen : (HH i).2.2.2.2.1.length < 512) (hS : SI2 (va_up HH i (ho_leave (HH i) k))) : fl_M cy z0 ext (d + 13) m_X6_leave [.ref (z0 + c), .int (nI i), .int (nI (64 + k))] sh V n (fun v sh' V' n' => v = none ∧ (∃ E' R', CL sh' V' n' K a0 c E' R' S (st_send (va_up HH i (ho_leave (HH i) k)))) ∧ FC c K sh V n sh' V' n') := by
  obtain ⟨u1, ⟨gu, u2, u3⟩, u4, u5, ⟨ixs, u6⟩, u7, u8, u9⟩ := id hL
  unfold isCL at u1
  obtain ⟨so1, so2⟩ := id u5.1
  obtain ⟨io1, io2⟩ := id u6.1
  have lS : S.length ≤ 120 := u5.2.2.1
  have eS : V (c + 370) 1 = nI S.length := u5.2.2.2.2.1
  have hHo : isHostB (nI i) = true := by rcases i with _ | _ | i <;> first | rfl | omega
  have hKo : isChB (nI (64 + k)) = true := by rw [isChB_nI (by omega)]; exact decide_eq_true (by omega)
  have hi1 : vp_in (nI i) 2 := vp_in_nI hi (by decide)
  have hi2 : gu (nI i).toNatClampNeg = some (c + 2 + 184 * i) := by rw [nI_clamp (by omega)]; exact u3 i hi
  have hH := u4 i hi
  obtain ⟨hb, hhb⟩ : ∃ hb, hb = c + 2 + 184 * i := ⟨_, rfl⟩
  rw [← hhb] at hH hi2
  obtain ⟨⟨f1, ⟨gc, f2, f3⟩, f4, f5, f6⟩, HC, HS, ⟨wh, HW⟩, HQ, HB, HG, HI⟩ := id hH
  unfold isHo at f1
  have ki : nI (64 + k) - 64 = nI k := by rw [show (64 : Int32) = nI 64 from rfl, pk_sub (by omega)]; congr 1; omega
  have ki1 : vp_in (nI (64 + k) - 64) 4 := by rw [ki]; exact vp_in_nI hk (by decide)
  have ki2 : gc (nI (64 + k) - 64).toNatClampNeg = some (hb + 2 + 19 * k) := by rw [ki, nI_clamp (by omega)]; exact f3 k hk
  have C0 := (HC k hk).1
  have n0 := (HC k hk).2
  have s0 := C0.1
  unfold isChan at s0
  have e1 : V (hb + 2 + 19 * k) 1 = 2 := by rw [(C0.i 1 (by omega)).1, hst]; rfl
  refine fs_body rfl rfl (fun Ret hP => ?_)
  refine fs_iload_n (pc2 := 1) rfl rfl rfl rfl ?_
  refine fs_calls (pc2 := 4) rfl rfl rfl rfl rfl rfl ⟨rfl, rfl⟩ (Nat.le_of_ble_eq_true rfl) (Nat.le_of_ble_eq_true rfl) (Nat.le_of_ble_eq_true rfl) (e_isHost (u := nI i)) (fun v9 sh9 V9 n9 hp9 => ?_)
  obtain ⟨ea9, eb9, ec9, hv9⟩ := hp9
  cases ea9
  obtain rfl := eb9.symm
  obtain rfl := ec9.symm
  cases hv9
  rw [hHo]
  refine fs_if_eq (pc2 := 7) rfl rfl rfl (fun h4 => ?_) (fun h4 => ?_)
  · exact absurd h4 (by decide)
  · refine fs_iload_n (pc2 := 8) rfl rfl rfl rfl ?_
    refine fs_calls (pc2 := 11) rfl rfl rfl rfl rfl rfl ⟨rfl, rfl⟩ (Nat.le_of_ble_eq_true rfl) (Nat.le_of_ble_eq_true rfl) (Nat.le_of_ble_eq_true rfl) (e_isChannel (u := nI (64 + k))) (fun v9 sh9 V9 n9 hp9 => ?_)
    obtain ⟨ea9, eb9, ec9, hv9⟩ := hp9
    cases ea9
    obtain rfl := eb9.symm
    obtain rfl := ec9.symm
    cases hv9
    rw [hKo]
    refine fs_if_ne (pc2 := 14) rfl rfl rfl (fun h11 => ?_) (fun h11 => ?_)
    · refine fs_aload_n (pc2 := 23) rfl rfl rfl rfl ?_
      refine fs_getr (pc2 := 26) rfl rfl rfl (by assumption) rfl ?_
      refine fs_iload_n (pc2 := 27) rfl rfl rfl rfl ?_
      refine fs_aald (pc2 := 28) rfl rfl rfl (by assumption) hi1 hi2 ?_
      refine fs_getr (pc2 := 31) rfl rfl rfl (by assumption) rfl ?_
      refine fs_iload_n (pc2 := 32) rfl rfl rfl rfl ?_
      refine fs_bipush (pc2 := 34) rfl rfl rfl ?_
      refine fs_isub (pc2 := 35) rfl rfl rfl ?_
      refine fs_aald (pc2 := 36) rfl rfl rfl (by assumption) ki1 ki2 ?_
      refine fs_astore_n (pc2 := 37) rfl rfl rfl (Nat.le_of_ble_eq_true rfl) ?_
      refine fs_aload_n (pc2 := 38) rfl rfl rfl rfl ?_
      refine fs_geti (pc2 := 41) rfl rfl rfl (by assumption) rfl ?_
      refine fs_iconst (pc2 := 42) rfl rfl rfl ?_
      refine fs_icmp_eq (pc2 := 45) rfl rfl rfl (fun h42 => ?_) (fun h42 => ?_)
      · refine fs_aload_n (pc2 := 54) rfl rfl rfl rfl ?_
        refine fs_getr (pc2 := 57) rfl rfl rfl (by assumption) rfl ?_
        refine fs_iload_n (pc2 := 58) rfl rfl rfl rfl ?_
        refine fs_aald (pc2 := 59) rfl rfl rfl (by assumption) hi1 hi2 ?_
        refine fs_aload_n (pc2 := 60) rfl rfl rfl rfl ?_
        refine fs_callv (pc2 := 63) rfl rfl rfl rfl ⟨rfl, rfl⟩ (Nat.le_of_ble_eq_true rfl) (Nat.le_of_ble_eq_true rfl) (Nat.le_of_ble_eq_true rfl) (fs_rcv rfl (by assumption)) (e_beginLeaving hA h9 hlen hk hH) (fun v9 sh9 V9 n9 hp9 => ?_)
        obtain ⟨ea9, e1x, rs1, k1, fr⟩ := hp9
        cases ea9
        rw [hhb] at k1 fr
        obtain ⟨L1, F1⟩ := hL.putB hi k1 fr
        obtain ⟨u1x, ⟨gux, u2x, u3x⟩, u4x, u5x, ⟨ixsx, u6x⟩, u7x, u8x, u9x⟩ := id L1
        unfold isCL at u1x
        obtain ⟨so1x, so2x⟩ := id u5x.1
        obtain ⟨io1x, io2x⟩ := id u6x.1
        refine fs_aload_n (pc2 := 64) rfl rfl rfl rfl ?_
        refine fs_callv (pc2 := 67) rfl rfl rfl rfl ⟨rfl, rfl⟩ (Nat.le_of_ble_eq_true rfl) (Nat.le_of_ble_eq_true rfl) (Nat.le_of_ble_eq_true rfl) (fs_rcv rfl (by assumption)) (e_sendWhatCanGo L1 hA hS) (fun v9 sh9 V9 n9 hp9 => ?_)
        obtain ⟨ea9, eb9, ⟨R9, L9⟩, F9⟩ := hp9
        cases ea9
        obtain rfl := eb9.symm
        refine fs_ret rfl rfl ?_
        exact hP _ _ _ _ ⟨rfl, ⟨_, _, L9⟩, F1.trans F9⟩
      · exact absurd e1 h42
    · exact absurd h11 (by decide)
set_option maxRecDepth 100000 in
set_option maxHeartbeats 4000000 in
theorem e_grant_full (hL : CL sh V n K a0 c E R S HH) (hA : AlOK cy z0 a0 ext) {i : Nat} (hi : i < 2) {k : Nat} (hk : k < 4) (hst : ((HH i).2.1 k).1 1 = 2) {cr : Nat} (hc1 : 1 ≤ cr) (hc2 : cr ≤ 1000) (hg : 65535 < ((HH i).2.1 k).1 5 + cr) : fl_M cy z0 ext (d + 13) m_X6_grant [.ref (z0 + c), .int (nI i), .int (nI (64 + k)), .int (nI cr)] sh V n (fun v sh' V' n' => v = some (.int (-2)) ∧ (∃ E' R', CL sh' V' n' K a0 c E' R' S HH) ∧ FC c K sh V n sh' V' n') := by
  obtain ⟨u1, ⟨gu, u2, u3⟩, u4, u5, ⟨ixs, u6⟩, u7, u8, u9⟩ := id hL
  unfold isCL at u1
  obtain ⟨so1, so2⟩ := id u5.1
  obtain ⟨io1, io2⟩ := id u6.1
  have lS : S.length ≤ 120 := u5.2.2.1
  have eS : V (c + 370) 1 = nI S.length := u5.2.2.2.2.1
  have hHo : isHostB (nI i) = true := by rcases i with _ | _ | i <;> first | rfl | omega
  have hKo : isChB (nI (64 + k)) = true := by rw [isChB_nI (by omega)]; exact decide_eq_true (by omega)
  have hi1 : vp_in (nI i) 2 := vp_in_nI hi (by decide)
  have hi2 : gu (nI i).toNatClampNeg = some (c + 2 + 184 * i) := by rw [nI_clamp (by omega)]; exact u3 i hi
  have hH := u4 i hi
  obtain ⟨hb, hhb⟩ : ∃ hb, hb = c + 2 + 184 * i := ⟨_, rfl⟩
  rw [← hhb] at hH hi2
  obtain ⟨⟨f1, ⟨gc, f2, f3⟩, f4, f5, f6⟩, HC, HS, ⟨wh, HW⟩, HQ, HB, HG, HI⟩ := id hH
  unfold isHo at f1
  have ki : nI (64 + k) - 64 = nI k := by rw [show (64 : Int32) = nI 64 from rfl, pk_sub (by omega)]; congr 1; omega
  have ki1 : vp_in (nI (64 + k) - 64) 4 := by rw [ki]; exact vp_in_nI hk (by decide)
  have ki2 : gc (nI (64 + k) - 64).toNatClampNeg = some (hb + 2 + 19 * k) := by rw [ki, nI_clamp (by omega)]; exact f3 k hk
  have C0 := (HC k hk).1
  have n0 := (HC k hk).2
  have s0 := C0.1
  unfold isChan at s0
  have e1 : V (hb + 2 + 19 * k) 1 = 2 := by rw [(C0.i 1 (by omega)).1, hst]; rfl
  have b5 := C0.2.1 5
  have e5 : V (hb + 2 + 19 * k) 5 + nI cr = nI (((HH i).2.1 k).1 5 + cr) := by rw [(C0.i 5 (by omega)).1, nI_add]
  refine fs_body rfl rfl (fun Ret hP => ?_)
  refine fs_iload_n (pc2 := 1) rfl rfl rfl rfl ?_
  refine fs_calls (pc2 := 4) rfl rfl rfl rfl rfl rfl ⟨rfl, rfl⟩ (Nat.le_of_ble_eq_true rfl) (Nat.le_of_ble_eq_true rfl) (Nat.le_of_ble_eq_true rfl) (e_isHost (u := nI i)) (fun v9 sh9 V9 n9 hp9 => ?_)
  obtain ⟨ea9, eb9, ec9, hv9⟩ := hp9
  cases ea9
  obtain rfl := eb9.symm
  obtain rfl := ec9.symm
  cases hv9
  rw [hHo]
  refine fs_if_eq (pc2 := 7) rfl rfl rfl (fun h4 => ?_) (fun h4 => ?_)
  · exact absurd h4 (by decide)
  · refine fs_iload_n (pc2 := 8) rfl rfl rfl rfl ?_
    refine fs_calls (pc2 := 11) rfl rfl rfl rfl rfl rfl ⟨rfl, rfl⟩ (Nat.le_of_ble_eq_true rfl) (Nat.le_of_ble_eq_true rfl) (Nat.le_of_ble_eq_true rfl) (e_isChannel (u := nI (64 + k))) (fun v9 sh9 V9 n9 hp9 => ?_)
    obtain ⟨ea9, eb9, ec9, hv9⟩ := hp9
    cases ea9
    obtain rfl := eb9.symm
    obtain rfl := ec9.symm
    cases hv9
    rw [hKo]
    refine fs_if_eq (pc2 := 14) rfl rfl rfl (fun h11 => ?_) (fun h11 => ?_)
    · exact absurd h11 (by decide)
    · refine fs_iload_n (pc2 := 15) rfl rfl rfl rfl ?_
      refine fs_iconst (pc2 := 16) rfl rfl rfl ?_
      refine fs_icmp_lt (pc2 := 19) rfl rfl rfl (fun h16 => ?_) (fun h16 => ?_)
      · exact absurd h16 (nI_nlt (by omega) (by omega))
      · refine fs_iload_n (pc2 := 20) rfl rfl rfl rfl ?_
        refine fs_sipush (pc2 := 23) rfl rfl rfl ?_
        refine fs_icmp_le (pc2 := 26) rfl rfl rfl (fun h23 => ?_) (fun h23 => ?_)
        · refine fs_aload_n (pc2 := 35) rfl rfl rfl rfl ?_
          refine fs_getr (pc2 := 38) rfl rfl rfl (by assumption) rfl ?_
          refine fs_iload_n (pc2 := 39) rfl rfl rfl rfl ?_
          refine fs_aald (pc2 := 40) rfl rfl rfl (by assumption) hi1 hi2 ?_
          refine fs_getr (pc2 := 43) rfl rfl rfl (by assumption) rfl ?_
          refine fs_iload_n (pc2 := 44) rfl rfl rfl rfl ?_
          refine fs_bipush (pc2 := 46) rfl rfl rfl ?_
          refine fs_isub (pc2 := 47) rfl rfl rfl ?_
          refine fs_aald (pc2 := 48) rfl rfl rfl (by assumption) ki1 ki2 ?_
          refine fs_astore (pc2 := 50) rfl rfl rfl (Nat.le_of_ble_eq_true rfl) ?_
          refine fs_aload (pc2 := 52) rfl rfl rfl rfl ?_
          refine fs_geti (pc2 := 55) rfl rfl rfl (by assumption) rfl ?_
          refine fs_iconst (pc2 := 56) rfl rfl rfl ?_
          refine fs_icmp_eq (pc2 := 59) rfl rfl rfl (fun h56 => ?_) (fun h56 => ?_)
          · refine fs_aload (pc2 := 69) rfl rfl rfl rfl ?_
            refine fs_geti (pc2 := 72) rfl rfl rfl (by assumption) rfl ?_
            refine fs_iload_n (pc2 := 73) rfl rfl rfl rfl ?_
            refine fs_iadd (pc2 := 74) rfl rfl rfl ?_
            refine fs_ldc (pc2 := 76) rfl rfl rfl ?_
            refine fs_icmp_le (pc2 := 79) rfl rfl rfl (fun h76 => ?_) (fun h76 => ?_)
            · have := c_le (b := 65535) h76 e5 rfl
              omega
            · refine fs_bipush (pc2 := 81) rfl rfl rfl ?_
              refine fs_iret rfl rfl True.intro ?_
              exact hP _ _ _ _ ⟨rfl, ⟨_, _, hL⟩, FC.refl⟩
          · exact absurd e1 h56
        · exact absurd (nI_le (a := cr) (b := 1000) (by omega) (by decide)) h23
set_option maxRecDepth 100000 in
set_option maxHeartbeats 4000000 in
theorem e_grant (hL : CL sh V n K a0 c E R S HH) (hA : AlOK cy z0 a0 ext) {i : Nat} (hi : i < 2) {k : Nat} (hk : k < 4) (hst : ((HH i).2.1 k).1 1 = 2) {cr : Nat} (hc1 : 1 ≤ cr) (hc2 : cr ≤ 1000) (hg : ((HH i).2.1 k).1 5 + cr ≤ 65535) (h9 : (HH i).1 9 ≤ 255) (hlen : (HH i).2.2.2.2.1.length < 512) (hS : SI2 (va_up HH i (ho_give (HH i) k cr))) : fl_M cy z0 ext (d + 13) m_X6_grant [.ref (z0 + c), .int (nI i), .int (nI (64 + k)), .int (nI cr)] sh V n (fun v sh' V' n' => v = some (.int (nI (((st_send (va_up HH i (ho_give (HH i) k cr)) i).2.1 k).1 5))) ∧ (∃ E' R', CL sh' V' n' K a0 c E' R' S (st_send (va_up HH i (ho_give (HH i) k cr)))) ∧ FC c K sh V n sh' V' n') := by
  obtain ⟨u1, ⟨gu, u2, u3⟩, u4, u5, ⟨ixs, u6⟩, u7, u8, u9⟩ := id hL
  unfold isCL at u1
  obtain ⟨so1, so2⟩ := id u5.1
  obtain ⟨io1, io2⟩ := id u6.1
  have lS : S.length ≤ 120 := u5.2.2.1
  have eS : V (c + 370) 1 = nI S.length := u5.2.2.2.2.1
  have hHo : isHostB (nI i) = true := by rcases i with _ | _ | i <;> first | rfl | omega
  have hKo : isChB (nI (64 + k)) = true := by rw [isChB_nI (by omega)]; exact decide_eq_true (by omega)
  have hi1 : vp_in (nI i) 2 := vp_in_nI hi (by decide)
  have hi2 : gu (nI i).toNatClampNeg = some (c + 2 + 184 * i) := by rw [nI_clamp (by omega)]; exact u3 i hi
  have hH := u4 i hi
  obtain ⟨hb, hhb⟩ : ∃ hb, hb = c + 2 + 184 * i := ⟨_, rfl⟩
  rw [← hhb] at hH hi2
  obtain ⟨⟨f1, ⟨gc, f2, f3⟩, f4, f5, f6⟩, HC, HS, ⟨wh, HW⟩, HQ, HB, HG, HI⟩ := id hH
  unfold isHo at f1
  have ki : nI (64 + k) - 64 = nI k := by rw [show (64 : Int32) = nI 64 from rfl, pk_sub (by omega)]; congr 1; omega
  have ki1 : vp_in (nI (64 + k) - 64) 4 := by rw [ki]; exact vp_in_nI hk (by decide)
  have ki2 : gc (nI (64 + k) - 64).toNatClampNeg = some (hb + 2 + 19 * k) := by rw [ki, nI_clamp (by omega)]; exact f3 k hk
  have C0 := (HC k hk).1
  have n0 := (HC k hk).2
  have s0 := C0.1
  unfold isChan at s0
  have e1 : V (hb + 2 + 19 * k) 1 = 2 := by rw [(C0.i 1 (by omega)).1, hst]; rfl
  have b5 := C0.2.1 5
  have e5 : V (hb + 2 + 19 * k) 5 + nI cr = nI (((HH i).2.1 k).1 5 + cr) := by rw [(C0.i 5 (by omega)).1, nI_add]
  refine fs_body rfl rfl (fun Ret hP => ?_)
  refine fs_iload_n (pc2 := 1) rfl rfl rfl rfl ?_
  refine fs_calls (pc2 := 4) rfl rfl rfl rfl rfl rfl ⟨rfl, rfl⟩ (Nat.le_of_ble_eq_true rfl) (Nat.le_of_ble_eq_true rfl) (Nat.le_of_ble_eq_true rfl) (e_isHost (u := nI i)) (fun v9 sh9 V9 n9 hp9 => ?_)
  obtain ⟨ea9, eb9, ec9, hv9⟩ := hp9
  cases ea9
  obtain rfl := eb9.symm
  obtain rfl := ec9.symm
  cases hv9
  rw [hHo]
  refine fs_if_eq (pc2 := 7) rfl rfl rfl (fun h4 => ?_) (fun h4 => ?_)
  · exact absurd h4 (by decide)
  · refine fs_iload_n (pc2 := 8) rfl rfl rfl rfl ?_
    refine fs_calls (pc2 := 11) rfl rfl rfl rfl rfl rfl ⟨rfl, rfl⟩ (Nat.le_of_ble_eq_true rfl) (Nat.le_of_ble_eq_true rfl) (Nat.le_of_ble_eq_true rfl) (e_isChannel (u := nI (64 + k))) (fun v9 sh9 V9 n9 hp9 => ?_)
    obtain ⟨ea9, eb9, ec9, hv9⟩ := hp9
    cases ea9
    obtain rfl := eb9.symm
    obtain rfl := ec9.symm
    cases hv9
    rw [hKo]
    refine fs_if_eq (pc2 := 14) rfl rfl rfl (fun h11 => ?_) (fun h11 => ?_)
    · exact absurd h11 (by decide)
    · refine fs_iload_n (pc2 := 15) rfl rfl rfl rfl ?_
      refine fs_iconst (pc2 := 16) rfl rfl rfl ?_
      refine fs_icmp_lt (pc2 := 19) rfl rfl rfl (fun h16 => ?_) (fun h16 => ?_)
      · exact absurd h16 (nI_nlt (by omega) (by omega))
      · refine fs_iload_n (pc2 := 20) rfl rfl rfl rfl ?_
        refine fs_sipush (pc2 := 23) rfl rfl rfl ?_
        refine fs_icmp_le (pc2 := 26) rfl rfl rfl (fun h23 => ?_) (fun h23 => ?_)
        · refine fs_aload_n (pc2 := 35) rfl rfl rfl rfl ?_
          refine fs_getr (pc2 := 38) rfl rfl rfl (by assumption) rfl ?_
          refine fs_iload_n (pc2 := 39) rfl rfl rfl rfl ?_
          refine fs_aald (pc2 := 40) rfl rfl rfl (by assumption) hi1 hi2 ?_
          refine fs_getr (pc2 := 43) rfl rfl rfl (by assumption) rfl ?_
          refine fs_iload_n (pc2 := 44) rfl rfl rfl rfl ?_
          refine fs_bipush (pc2 := 46) rfl rfl rfl ?_
          refine fs_isub (pc2 := 47) rfl rfl rfl ?_
          refine fs_aald (pc2 := 48) rfl rfl rfl (by assumption) ki1 ki2 ?_
          refine fs_astore (pc2 := 50) rfl rfl rfl (Nat.le_of_ble_eq_true rfl) ?_
          refine fs_aload (pc2 := 52) rfl rfl rfl rfl ?_
          refine fs_geti (pc2 := 55) rfl rfl rfl (by assumption) rfl ?_
          refine fs_iconst (pc2 := 56) rfl rfl rfl ?_
          refine fs_icmp_eq (pc2 := 59) rfl rfl rfl (fun h56 => ?_) (fun h56 => ?_)
          · refine fs_aload (pc2 := 69) rfl rfl rfl rfl ?_
            refine fs_geti (pc2 := 72) rfl rfl rfl (by assumption) rfl ?_
            refine fs_iload_n (pc2 := 73) rfl rfl rfl rfl ?_
            refine fs_iadd (pc2 := 74) rfl rfl rfl ?_
            refine fs_ldc (pc2 := 76) rfl rfl rfl ?_
            refine fs_icmp_le (pc2 := 79) rfl rfl rfl (fun h76 => ?_) (fun h76 => ?_)
            · refine fs_aload_n (pc2 := 83) rfl rfl rfl rfl ?_
              refine fs_getr (pc2 := 86) rfl rfl rfl (by assumption) rfl ?_
              refine fs_iload_n (pc2 := 87) rfl rfl rfl rfl ?_
              refine fs_aald (pc2 := 88) rfl rfl rfl (by assumption) hi1 hi2 ?_
              refine fs_aload (pc2 := 90) rfl rfl rfl rfl ?_
              refine fs_iload_n (pc2 := 91) rfl rfl rfl rfl ?_
              refine fs_callv (pc2 := 94) rfl rfl rfl rfl ⟨rfl, rfl⟩ (Nat.le_of_ble_eq_true rfl) (Nat.le_of_ble_eq_true rfl) (Nat.le_of_ble_eq_true rfl) (fs_rcv rfl (by assumption)) (e_giveCredits hA h9 hlen hk (by omega) hH) (fun v9 sh9 V9 n9 hp9 => ?_)
              obtain ⟨ea9, e1x, rs1, k1, fr⟩ := hp9
              cases ea9
              rw [hhb] at k1 fr
              obtain ⟨L1, F1⟩ := hL.putB hi k1 fr
              obtain ⟨u1x, ⟨gux, u2x, u3x⟩, u4x, u5x, ⟨ixsx, u6x⟩, u7x, u8x, u9x⟩ := id L1
              unfold isCL at u1x
              obtain ⟨so1x, so2x⟩ := id u5x.1
              obtain ⟨io1x, io2x⟩ := id u6x.1
              refine fs_aload_n (pc2 := 95) rfl rfl rfl rfl ?_
              refine fs_callv (pc2 := 98) rfl rfl rfl rfl ⟨rfl, rfl⟩ (Nat.le_of_ble_eq_true rfl) (Nat.le_of_ble_eq_true rfl) (Nat.le_of_ble_eq_true rfl) (fs_rcv rfl (by assumption)) (e_sendWhatCanGo L1 hA hS) (fun v9 sh9 V9 n9 hp9 => ?_)
              obtain ⟨ea9, eb9, ⟨R9, L9⟩, F9⟩ := hp9
              cases ea9
              obtain rfl := eb9.symm
              have H9 := L9.host hi
              rw [← hhb] at H9
              have C9 := H9.ch hk
              have s9 := C9.1
              unfold isChan at s9
              have e59 := (C9.i 5 (by omega)).1
              refine fs_aload (pc2 := 100) rfl rfl rfl rfl ?_
              refine fs_geti (pc2 := 103) rfl rfl rfl (by assumption) rfl ?_
              refine fs_iret rfl rfl True.intro ?_
              rw [e59]
              exact hP _ _ _ _ ⟨rfl, ⟨_, _, L9⟩, F1.trans F9⟩
            · have := c_nle (b := 65535) h76 e5 rfl
              omega
          · exact absurd e1 h56
        · exact absurd (nI_le (a := cr) (b := 1000) (by omega) (by decide)) h23
set_option maxRecDepth 100000 in
set_option maxHeartbeats 4000000 in
theorem e_send_full (hL : CL sh V n K a0 c E R S HH) {i : Nat} (hi : i < 2) {k : Nat} (hk : k < 4) (hst : ((HH i).2.1 k).1 1 = 2) (hno : ((HH i).2.1 k).1 7 < S.length ∨ ((HH i).2.1 k).2.2.1.length = 2) : fl_M cy z0 ext (d + 13) m_X6_send [.ref (z0 + c), .int (nI i), .int (nI (64 + k))] sh V n (fun v sh' V' n' => v = some (.int (-2)) ∧ (∃ E' R', CL sh' V' n' K a0 c E' R' S HH) ∧ FC c K sh V n sh' V' n') := by
  obtain ⟨u1, ⟨gu, u2, u3⟩, u4, u5, ⟨ixs, u6⟩, u7, u8, u9⟩ := id hL
  unfold isCL at u1
  obtain ⟨so1, so2⟩ := id u5.1
  obtain ⟨io1, io2⟩ := id u6.1
  have lS : S.length ≤ 120 := u5.2.2.1
  have eS : V (c + 370) 1 = nI S.length := u5.2.2.2.2.1
  have hHo : isHostB (nI i) = true := by rcases i with _ | _ | i <;> first | rfl | omega
  have hKo : isChB (nI (64 + k)) = true := by rw [isChB_nI (by omega)]; exact decide_eq_true (by omega)
  have hi1 : vp_in (nI i) 2 := vp_in_nI hi (by decide)
  have hi2 : gu (nI i).toNatClampNeg = some (c + 2 + 184 * i) := by rw [nI_clamp (by omega)]; exact u3 i hi
  have hH := u4 i hi
  obtain ⟨hb, hhb⟩ : ∃ hb, hb = c + 2 + 184 * i := ⟨_, rfl⟩
  rw [← hhb] at hH hi2
  obtain ⟨⟨f1, ⟨gc, f2, f3⟩, f4, f5, f6⟩, HC, HS, ⟨wh, HW⟩, HQ, HB, HG, HI⟩ := id hH
  unfold isHo at f1
  have ki : nI (64 + k) - 64 = nI k := by rw [show (64 : Int32) = nI 64 from rfl, pk_sub (by omega)]; congr 1; omega
  have ki1 : vp_in (nI (64 + k) - 64) 4 := by rw [ki]; exact vp_in_nI hk (by decide)
  have ki2 : gc (nI (64 + k) - 64).toNatClampNeg = some (hb + 2 + 19 * k) := by rw [ki, nI_clamp (by omega)]; exact f3 k hk
  have C0 := (HC k hk).1
  have n0 := (HC k hk).2
  have s0 := C0.1
  unfold isChan at s0
  have e1 : V (hb + 2 + 19 * k) 1 = 2 := by rw [(C0.i 1 (by omega)).1, hst]; rfl
  refine fs_body rfl rfl (fun Ret hP => ?_)
  refine fs_iload_n (pc2 := 1) rfl rfl rfl rfl ?_
  refine fs_calls (pc2 := 4) rfl rfl rfl rfl rfl rfl ⟨rfl, rfl⟩ (Nat.le_of_ble_eq_true rfl) (Nat.le_of_ble_eq_true rfl) (Nat.le_of_ble_eq_true rfl) (e_isHost (u := nI i)) (fun v9 sh9 V9 n9 hp9 => ?_)
  obtain ⟨ea9, eb9, ec9, hv9⟩ := hp9
  cases ea9
  obtain rfl := eb9.symm
  obtain rfl := ec9.symm
  cases hv9
  rw [hHo]
  refine fs_if_eq (pc2 := 7) rfl rfl rfl (fun h4 => ?_) (fun h4 => ?_)
  · exact absurd h4 (by decide)
  · refine fs_iload_n (pc2 := 8) rfl rfl rfl rfl ?_
    refine fs_calls (pc2 := 11) rfl rfl rfl rfl rfl rfl ⟨rfl, rfl⟩ (Nat.le_of_ble_eq_true rfl) (Nat.le_of_ble_eq_true rfl) (Nat.le_of_ble_eq_true rfl) (e_isChannel (u := nI (64 + k))) (fun v9 sh9 V9 n9 hp9 => ?_)
    obtain ⟨ea9, eb9, ec9, hv9⟩ := hp9
    cases ea9
    obtain rfl := eb9.symm
    obtain rfl := ec9.symm
    cases hv9
    rw [hKo]
    refine fs_if_ne (pc2 := 14) rfl rfl rfl (fun h11 => ?_) (fun h11 => ?_)
    · refine fs_aload_n (pc2 := 23) rfl rfl rfl rfl ?_
      refine fs_getr (pc2 := 26) rfl rfl rfl (by assumption) rfl ?_
      refine fs_iload_n (pc2 := 27) rfl rfl rfl rfl ?_
      refine fs_aald (pc2 := 28) rfl rfl rfl (by assumption) hi1 hi2 ?_
      refine fs_getr (pc2 := 31) rfl rfl rfl (by assumption) rfl ?_
      refine fs_iload_n (pc2 := 32) rfl rfl rfl rfl ?_
      refine fs_bipush (pc2 := 34) rfl rfl rfl ?_
      refine fs_isub (pc2 := 35) rfl rfl rfl ?_
      refine fs_aald (pc2 := 36) rfl rfl rfl (by assumption) ki1 ki2 ?_
      refine fs_astore_n (pc2 := 37) rfl rfl rfl (Nat.le_of_ble_eq_true rfl) ?_
      refine fs_aload_n (pc2 := 38) rfl rfl rfl rfl ?_
      refine fs_geti (pc2 := 41) rfl rfl rfl (by assumption) rfl ?_
      refine fs_iconst (pc2 := 42) rfl rfl rfl ?_
      refine fs_icmp_eq (pc2 := 45) rfl rfl rfl (fun h42 => ?_) (fun h42 => ?_)
      · refine fs_aload_n (pc2 := 54) rfl rfl rfl rfl ?_
        refine fs_aload_n (pc2 := 55) rfl rfl rfl rfl ?_
        refine fs_getr (pc2 := 58) rfl rfl rfl (by assumption) rfl ?_
        refine fs_callv (pc2 := 61) rfl rfl rfl rfl ⟨rfl, rfl⟩ (Nat.le_of_ble_eq_true rfl) (Nat.le_of_ble_eq_true rfl) (Nat.le_of_ble_eq_true rfl) (fs_rcv rfl (by assumption)) (e_Chan_putText_no u5 (by omega) hno C0) (fun v9 sh9 V9 n9 hp9 => ?_)
        obtain ⟨ea9, eb9, ec9, hv9⟩ := hp9
        cases ea9
        obtain rfl := eb9.symm
        obtain rfl := ec9.symm
        cases hv9
        refine fs_if_ne (pc2 := 64) rfl rfl rfl (fun h61 => ?_) (fun h61 => ?_)
        · exact absurd rfl h61
        · refine fs_bipush (pc2 := 66) rfl rfl rfl ?_
          refine fs_iret rfl rfl True.intro ?_
          exact hP _ _ _ _ ⟨rfl, ⟨_, _, hL⟩, FC.refl⟩
      · exact absurd e1 h42
    · exact absurd h11 (by decide)
set_option maxRecDepth 100000 in
set_option maxHeartbeats 4000000 in
theorem e_send (hL : CL sh V n K a0 c E R S HH) {i : Nat} (hi : i < 2) {k : Nat} (hk : k < 4) (hst : ((HH i).2.1 k).1 1 = 2) (hA : AlOK cy z0 a0 ext) (hle : S.length ≤ ((HH i).2.1 k).1 7) (hfr : ((HH i).2.1 k).2.2.1.length < 2) (hS : SI2 (va_up HH i (hoC (HH i) k (txPut ((HH i).2.1 k) S)))) : fl_M cy z0 ext (d + 13) m_X6_send [.ref (z0 + c), .int (nI i), .int (nI (64 + k))] sh V n (fun v sh' V' n' => v = some (.int (nI (((HH i).2.1 k).2.2.1.length + 1))) ∧ (∃ E' R', CL sh' V' n' K a0 c E' R' [] (st_send (va_up HH i (hoC (HH i) k (txPut ((HH i).2.1 k) S))))) ∧ FC c K sh V n sh' V' n') := by
  obtain ⟨u1, ⟨gu, u2, u3⟩, u4, u5, ⟨ixs, u6⟩, u7, u8, u9⟩ := id hL
  unfold isCL at u1
  obtain ⟨so1, so2⟩ := id u5.1
  obtain ⟨io1, io2⟩ := id u6.1
  have lS : S.length ≤ 120 := u5.2.2.1
  have eS : V (c + 370) 1 = nI S.length := u5.2.2.2.2.1
  have hHo : isHostB (nI i) = true := by rcases i with _ | _ | i <;> first | rfl | omega
  have hKo : isChB (nI (64 + k)) = true := by rw [isChB_nI (by omega)]; exact decide_eq_true (by omega)
  have hi1 : vp_in (nI i) 2 := vp_in_nI hi (by decide)
  have hi2 : gu (nI i).toNatClampNeg = some (c + 2 + 184 * i) := by rw [nI_clamp (by omega)]; exact u3 i hi
  have hH := u4 i hi
  obtain ⟨hb, hhb⟩ : ∃ hb, hb = c + 2 + 184 * i := ⟨_, rfl⟩
  rw [← hhb] at hH hi2
  obtain ⟨⟨f1, ⟨gc, f2, f3⟩, f4, f5, f6⟩, HC, HS, ⟨wh, HW⟩, HQ, HB, HG, HI⟩ := id hH
  unfold isHo at f1
  have ki : nI (64 + k) - 64 = nI k := by rw [show (64 : Int32) = nI 64 from rfl, pk_sub (by omega)]; congr 1; omega
  have ki1 : vp_in (nI (64 + k) - 64) 4 := by rw [ki]; exact vp_in_nI hk (by decide)
  have ki2 : gc (nI (64 + k) - 64).toNatClampNeg = some (hb + 2 + 19 * k) := by rw [ki, nI_clamp (by omega)]; exact f3 k hk
  have C0 := (HC k hk).1
  have n0 := (HC k hk).2
  have s0 := C0.1
  unfold isChan at s0
  have e1 : V (hb + 2 + 19 * k) 1 = 2 := by rw [(C0.i 1 (by omega)).1, hst]; rfl
  refine fs_body rfl rfl (fun Ret hP => ?_)
  refine fs_iload_n (pc2 := 1) rfl rfl rfl rfl ?_
  refine fs_calls (pc2 := 4) rfl rfl rfl rfl rfl rfl ⟨rfl, rfl⟩ (Nat.le_of_ble_eq_true rfl) (Nat.le_of_ble_eq_true rfl) (Nat.le_of_ble_eq_true rfl) (e_isHost (u := nI i)) (fun v9 sh9 V9 n9 hp9 => ?_)
  obtain ⟨ea9, eb9, ec9, hv9⟩ := hp9
  cases ea9
  obtain rfl := eb9.symm
  obtain rfl := ec9.symm
  cases hv9
  rw [hHo]
  refine fs_if_eq (pc2 := 7) rfl rfl rfl (fun h4 => ?_) (fun h4 => ?_)
  · exact absurd h4 (by decide)
  · refine fs_iload_n (pc2 := 8) rfl rfl rfl rfl ?_
    refine fs_calls (pc2 := 11) rfl rfl rfl rfl rfl rfl ⟨rfl, rfl⟩ (Nat.le_of_ble_eq_true rfl) (Nat.le_of_ble_eq_true rfl) (Nat.le_of_ble_eq_true rfl) (e_isChannel (u := nI (64 + k))) (fun v9 sh9 V9 n9 hp9 => ?_)
    obtain ⟨ea9, eb9, ec9, hv9⟩ := hp9
    cases ea9
    obtain rfl := eb9.symm
    obtain rfl := ec9.symm
    cases hv9
    rw [hKo]
    refine fs_if_ne (pc2 := 14) rfl rfl rfl (fun h11 => ?_) (fun h11 => ?_)
    · refine fs_aload_n (pc2 := 23) rfl rfl rfl rfl ?_
      refine fs_getr (pc2 := 26) rfl rfl rfl (by assumption) rfl ?_
      refine fs_iload_n (pc2 := 27) rfl rfl rfl rfl ?_
      refine fs_aald (pc2 := 28) rfl rfl rfl (by assumption) hi1 hi2 ?_
      refine fs_getr (pc2 := 31) rfl rfl rfl (by assumption) rfl ?_
      refine fs_iload_n (pc2 := 32) rfl rfl rfl rfl ?_
      refine fs_bipush (pc2 := 34) rfl rfl rfl ?_
      refine fs_isub (pc2 := 35) rfl rfl rfl ?_
      refine fs_aald (pc2 := 36) rfl rfl rfl (by assumption) ki1 ki2 ?_
      refine fs_astore_n (pc2 := 37) rfl rfl rfl (Nat.le_of_ble_eq_true rfl) ?_
      refine fs_aload_n (pc2 := 38) rfl rfl rfl rfl ?_
      refine fs_geti (pc2 := 41) rfl rfl rfl (by assumption) rfl ?_
      refine fs_iconst (pc2 := 42) rfl rfl rfl ?_
      refine fs_icmp_eq (pc2 := 45) rfl rfl rfl (fun h42 => ?_) (fun h42 => ?_)
      · refine fs_aload_n (pc2 := 54) rfl rfl rfl rfl ?_
        refine fs_aload_n (pc2 := 55) rfl rfl rfl rfl ?_
        refine fs_getr (pc2 := 58) rfl rfl rfl (by assumption) rfl ?_
        refine fs_callv (pc2 := 61) rfl rfl rfl rfl ⟨rfl, rfl⟩ (Nat.le_of_ble_eq_true rfl) (Nat.le_of_ble_eq_true rfl) (Nat.le_of_ble_eq_true rfl) (fs_rcv rfl (by assumption)) (e_Chan_putText u5 (by omega) hle hfr lS C0) (fun v9 sh9 V9 n9 hp9 => ?_)
        obtain ⟨ea9, eb9, ec9, C1, hf1⟩ := hp9
        cases ea9
        obtain rfl := eb9.symm
        obtain rfl := ec9.symm
        have k1 := hH.putC hk C1 n0 hf1
        rw [hhb] at k1
        obtain ⟨L1, F1⟩ := hL.putB hi k1 (Fr.same (fun a ha => hf1 a (by omega)))
        obtain ⟨h1, T1⟩ := C1.2.2.2.2.2.1
        have tt0 := T1.1.1
        have eT : V9 (hb + 2 + 19 * k + 1) 2 = nI (((HH i).2.1 k).2.2.1.length + 1) := by rw [T1.2.2.2.2.2.1]; simp
        obtain ⟨u1x, ⟨gux, u2x, u3x⟩, u4x, u5x, ⟨ixsx, u6x⟩, u7x, u8x, u9x⟩ := id L1
        unfold isCL at u1x
        obtain ⟨so1x, so2x⟩ := id u5x.1
        obtain ⟨io1x, io2x⟩ := id u6x.1
        refine fs_if_ne (pc2 := 64) rfl rfl rfl (fun h61 => ?_) (fun h61 => ?_)
        · refine fs_aload_n (pc2 := 68) rfl rfl rfl rfl ?_
          refine fs_getr (pc2 := 71) rfl rfl rfl (by assumption) rfl ?_
          refine fs_geti (pc2 := 74) rfl rfl rfl (by assumption) rfl ?_
          refine fs_istore (pc2 := 76) rfl rfl rfl (Nat.le_of_ble_eq_true rfl) ?_
          refine fs_aload_n (pc2 := 77) rfl rfl rfl rfl ?_
          refine fs_getr (pc2 := 80) rfl rfl rfl (by assumption) rfl ?_
          refine fs_callv (pc2 := 83) rfl rfl rfl rfl ⟨rfl, rfl⟩ (Nat.le_of_ble_eq_true rfl) (Nat.le_of_ble_eq_true rfl) (Nat.le_of_ble_eq_true rfl) (fs_rcv rfl (by assumption)) (e_Row_clear u5x) (fun v9 sh9 V9 n9 hp9 => ?_)
          obtain ⟨ea9, eb9, ec9, hr2, hf2⟩ := hp9
          cases ea9
          obtain rfl := eb9.symm
          obtain rfl := ec9.symm
          obtain ⟨L2, F2⟩ := L1.putS hr2 (fun a a1 a2 => hf2 a a1)
          obtain ⟨u1y, ⟨guy, u2y, u3y⟩, u4y, u5y, ⟨ixsy, u6y⟩, u7y, u8y, u9y⟩ := id L2
          unfold isCL at u1y
          obtain ⟨so1y, so2y⟩ := id u5y.1
          obtain ⟨io1y, io2y⟩ := id u6y.1
          refine fs_aload_n (pc2 := 84) rfl rfl rfl rfl ?_
          refine fs_callv (pc2 := 87) rfl rfl rfl rfl ⟨rfl, rfl⟩ (Nat.le_of_ble_eq_true rfl) (Nat.le_of_ble_eq_true rfl) (Nat.le_of_ble_eq_true rfl) (fs_rcv rfl (by assumption)) (e_sendWhatCanGo L2 hA hS) (fun v9 sh9 V9 n9 hp9 => ?_)
          obtain ⟨ea9, eb9, ⟨R9, L9⟩, F9⟩ := hp9
          cases ea9
          obtain rfl := eb9.symm
          refine fs_iload (pc2 := 89) rfl rfl rfl rfl ?_
          refine fs_iret rfl rfl True.intro ?_
          rw [eT]
          exact hP _ _ _ _ ⟨rfl, ⟨_, _, L9⟩, (F1.trans F2).trans F9⟩
        · exact absurd h61 (by decide)
      · exact absurd e1 h42
    · exact absurd h11 (by decide)
end PUB
