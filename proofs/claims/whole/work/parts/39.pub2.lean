theorem ho_gath_keep (H : Ho) (mk : Bool) (ys : List Nat) : (ho_gath H mk ys).2.2.2.2.1 = H.2.2.2.1 ∧ (ho_gath H mk ys).2.2.1 = H.2.1 ∧ (ho_gath H mk ys).2.1 9 = H.1 9 ∧ (ho_gath H mk ys).2.2.2.2.2.1 = H.2.2.2.2.1 := by
  unfold ho_gath ho_gath2 ho_drop
  repeat' split
  all_goals simp [va_up]
theorem ho_leave_way (H : Ho) (k : Nat) : (ho_leave H k).2.2.2.1 = H.2.2.2.1 := rfl
theorem ho_sig_way (H : Ho) : (ho_sig H).2.2.2.1 = H.2.2.2.1 := by
  unfold ho_sig ho_sigd ho_req ho_acc ho_ref ho_ans ho_ans1 ho_cred ho_cred1 ho_lv ho_left ho_rej
  repeat' split
  all_goals rfl
theorem ho_seg_way (H : Ho) (nb : Nat) : (ho_seg H nb).2.2.2.1 = H.2.2.2.1 := by
  unfold ho_seg
  repeat' split
  all_goals rfl
theorem ho_unitH_way (H : Ho) : (ho_unitH H).2.2.2.1 = H.2.2.2.1 := by
  unfold ho_unitH
  split
  · exact ho_sig_way _
  · exact ho_seg_way _ _
section PUB2
variable {cy : Nat → ClassId} {z0 : Nat} {ext : Nat → Nat → List Value → ev_H → Nat → ev_P → Prop} {d : Nat} {sh sh' : fl_S} {V V' : fl_V} {n n' K a0 c : Nat} {E : Nat → Nat} {R : Nat → List Nat} {S : List Nat} {HH : Nat → Ho}
set_option maxRecDepth 100000 in
set_option maxHeartbeats 4000000 in
theorem e_lose0 (hL : CL sh V n K a0 c E R S HH) (hA : AlOK cy z0 a0 ext) (hS : SI2 HH) {i : Nat} (hi : i < 2) (hw0 : (HH i).2.2.2.1 = []) : fl_M cy z0 ext (d + 13) m_X6_lose [.ref (z0 + c), .int (nI i)] sh V n (fun v sh' V' n' => v = some (.int 0) ∧ (∃ E' R', CL sh' V' n' K a0 c E' R' S (st_send HH)) ∧ FC c K sh V n sh' V' n') := by
  obtain ⟨u1, ⟨gu, u2, u3⟩, u4, u5, ⟨ixs, u6⟩, u7, u8, u9⟩ := id hL
  unfold isCL at u1
  obtain ⟨so1, so2⟩ := id u5.1
  obtain ⟨io1, io2⟩ := id u6.1
  have lS : S.length ≤ 120 := u5.2.2.1
  have eS : V (c + 370) 1 = nI S.length := u5.2.2.2.2.1
  have hHo : isHostB (nI i) = true := by rcases i with _ | _ | i <;> first | rfl | omega
  have hi1 : vp_in (nI i) 2 := vp_in_nI hi (by decide)
  have hi2 : gu (nI i).toNatClampNeg = some (c + 2 + 184 * i) := by rw [nI_clamp (by omega)]; exact u3 i hi
  have hH := u4 i hi
  obtain ⟨hb, hhb⟩ : ∃ hb, hb = c + 2 + 184 * i := ⟨_, rfl⟩
  rw [← hhb] at hH hi2
  obtain ⟨⟨f1, ⟨gc, f2, f3⟩, f4, f5, f6⟩, HC, HS, ⟨wh, HW⟩, HQ, HB, HG, HI⟩ := id hH
  unfold isHo at f1
  rw [hw0] at HW
  have y1 := HW.1.1
  refine fs_body rfl rfl (fun Ret hP => ?_)
  refine fs_iload_n (pc2 := 1) rfl rfl rfl rfl ?_
  refine fs_calls (pc2 := 4) rfl rfl rfl rfl rfl rfl ⟨rfl, rfl⟩ (Nat.le_of_ble_eq_true rfl) (Nat.le_of_ble_eq_true rfl) (Nat.le_of_ble_eq_true rfl) (e_isHost (u := nI i)) (fun v9 sh9 V9 n9 hp9 => ?_)
  obtain ⟨ea9, eb9, ec9, hv9⟩ := hp9
  cases ea9
  obtain rfl := eb9.symm
  obtain rfl := ec9.symm
  cases hv9
  rw [hHo]
  refine fs_if_ne (pc2 := 7) rfl rfl rfl (fun h4 => ?_) (fun h4 => ?_)
  · refine fs_aload_n (pc2 := 16) rfl rfl rfl rfl ?_
    refine fs_getr (pc2 := 19) rfl rfl rfl (by assumption) rfl ?_
    refine fs_iload_n (pc2 := 20) rfl rfl rfl rfl ?_
    refine fs_aald (pc2 := 21) rfl rfl rfl (by assumption) hi1 hi2 ?_
    refine fs_getr (pc2 := 24) rfl rfl rfl (by assumption) rfl ?_
    refine fs_callv (pc2 := 27) rfl rfl rfl rfl ⟨rfl, rfl⟩ (Nat.le_of_ble_eq_true rfl) (Nat.le_of_ble_eq_true rfl) (Nat.le_of_ble_eq_true rfl) (fs_rcv rfl (by assumption)) (e_Way_dropFirst0 HW) (fun v9 sh9 V9 n9 hp9 => ?_)
    obtain ⟨ea9, eb9, ec9, hv9⟩ := hp9
    cases ea9
    obtain rfl := eb9.symm
    obtain rfl := ec9.symm
    cases hv9
    refine fs_istore_n (pc2 := 28) rfl rfl rfl (Nat.le_of_ble_eq_true rfl) ?_
    refine fs_aload_n (pc2 := 29) rfl rfl rfl rfl ?_
    refine fs_callv (pc2 := 32) rfl rfl rfl rfl ⟨rfl, rfl⟩ (Nat.le_of_ble_eq_true rfl) (Nat.le_of_ble_eq_true rfl) (Nat.le_of_ble_eq_true rfl) (fs_rcv rfl (by assumption)) (e_sendWhatCanGo hL hA hS) (fun v9 sh9 V9 n9 hp9 => ?_)
    obtain ⟨ea9, eb9, ⟨R9, L9⟩, F9⟩ := hp9
    cases ea9
    obtain rfl := eb9.symm
    refine fs_iload_n (pc2 := 33) rfl rfl rfl rfl ?_
    refine fs_iret rfl rfl (Or.inl rfl) ?_
    exact hP _ _ _ _ ⟨rfl, ⟨_, _, L9⟩, F9⟩
  · exact absurd h4 (by decide)
set_option maxRecDepth 100000 in
set_option maxHeartbeats 4000000 in
theorem e_lose (hL : CL sh V n K a0 c E R S HH) (hA : AlOK cy z0 a0 ext) {i : Nat} (hi : i < 2) {y : Pkt} {ps : List Pkt} (hw0 : (HH i).2.2.2.1 = y :: ps) (hS : SI2 (va_up HH i (hoW (HH i) ps))) : fl_M cy z0 ext (d + 13) m_X6_lose [.ref (z0 + c), .int (nI i)] sh V n (fun v sh' V' n' => v = some (.int 1) ∧ (∃ E' R', CL sh' V' n' K a0 c E' R' S (st_send (va_up HH i (hoW (HH i) ps)))) ∧ FC c K sh V n sh' V' n') := by
  obtain ⟨u1, ⟨gu, u2, u3⟩, u4, u5, ⟨ixs, u6⟩, u7, u8, u9⟩ := id hL
  unfold isCL at u1
  obtain ⟨so1, so2⟩ := id u5.1
  obtain ⟨io1, io2⟩ := id u6.1
  have lS : S.length ≤ 120 := u5.2.2.1
  have eS : V (c + 370) 1 = nI S.length := u5.2.2.2.2.1
  have hHo : isHostB (nI i) = true := by rcases i with _ | _ | i <;> first | rfl | omega
  have hi1 : vp_in (nI i) 2 := vp_in_nI hi (by decide)
  have hi2 : gu (nI i).toNatClampNeg = some (c + 2 + 184 * i) := by rw [nI_clamp (by omega)]; exact u3 i hi
  have hH := u4 i hi
  obtain ⟨hb, hhb⟩ : ∃ hb, hb = c + 2 + 184 * i := ⟨_, rfl⟩
  rw [← hhb] at hH hi2
  obtain ⟨⟨f1, ⟨gc, f2, f3⟩, f4, f5, f6⟩, HC, HS, ⟨wh, HW⟩, HQ, HB, HG, HI⟩ := id hH
  unfold isHo at f1
  rw [hw0] at HW
  have y1 := HW.1.1
  refine fs_body rfl rfl (fun Ret hP => ?_)
  refine fs_iload_n (pc2 := 1) rfl rfl rfl rfl ?_
  refine fs_calls (pc2 := 4) rfl rfl rfl rfl rfl rfl ⟨rfl, rfl⟩ (Nat.le_of_ble_eq_true rfl) (Nat.le_of_ble_eq_true rfl) (Nat.le_of_ble_eq_true rfl) (e_isHost (u := nI i)) (fun v9 sh9 V9 n9 hp9 => ?_)
  obtain ⟨ea9, eb9, ec9, hv9⟩ := hp9
  cases ea9
  obtain rfl := eb9.symm
  obtain rfl := ec9.symm
  cases hv9
  rw [hHo]
  refine fs_if_ne (pc2 := 7) rfl rfl rfl (fun h4 => ?_) (fun h4 => ?_)
  · refine fs_aload_n (pc2 := 16) rfl rfl rfl rfl ?_
    refine fs_getr (pc2 := 19) rfl rfl rfl (by assumption) rfl ?_
    refine fs_iload_n (pc2 := 20) rfl rfl rfl rfl ?_
    refine fs_aald (pc2 := 21) rfl rfl rfl (by assumption) hi1 hi2 ?_
    refine fs_getr (pc2 := 24) rfl rfl rfl (by assumption) rfl ?_
    refine fs_callv (pc2 := 27) rfl rfl rfl rfl ⟨rfl, rfl⟩ (Nat.le_of_ble_eq_true rfl) (Nat.le_of_ble_eq_true rfl) (Nat.le_of_ble_eq_true rfl) (fs_rcv rfl (by assumption)) (e_Way_dropFirst HW) (fun v9 sh9 V9 n9 hp9 => ?_)
    obtain ⟨ea9, eb9, ec9, W1, hf1⟩ := hp9
    cases ea9
    obtain rfl := eb9.symm
    obtain rfl := ec9.symm
    obtain ⟨h1, W1⟩ := W1
    have k1 := hH.putW W1 (fun a ha => hf1 a (by omega))
    rw [hhb] at k1
    obtain ⟨L1, F1⟩ := hL.putB hi k1 (Fr.same (fun a ha => hf1 a (by omega)))
    obtain ⟨u1x, ⟨gux, u2x, u3x⟩, u4x, u5x, ⟨ixsx, u6x⟩, u7x, u8x, u9x⟩ := id L1
    unfold isCL at u1x
    obtain ⟨so1x, so2x⟩ := id u5x.1
    obtain ⟨io1x, io2x⟩ := id u6x.1
    refine fs_istore_n (pc2 := 28) rfl rfl rfl (Nat.le_of_ble_eq_true rfl) ?_
    refine fs_aload_n (pc2 := 29) rfl rfl rfl rfl ?_
    refine fs_callv (pc2 := 32) rfl rfl rfl rfl ⟨rfl, rfl⟩ (Nat.le_of_ble_eq_true rfl) (Nat.le_of_ble_eq_true rfl) (Nat.le_of_ble_eq_true rfl) (fs_rcv rfl (by assumption)) (e_sendWhatCanGo L1 hA hS) (fun v9 sh9 V9 n9 hp9 => ?_)
    obtain ⟨ea9, eb9, ⟨R9, L9⟩, F9⟩ := hp9
    cases ea9
    obtain rfl := eb9.symm
    refine fs_iload_n (pc2 := 33) rfl rfl rfl rfl ?_
    refine fs_iret rfl rfl (Or.inr rfl) ?_
    exact hP _ _ _ _ ⟨rfl, ⟨_, _, L9⟩, F1.trans F9⟩
  · exact absurd h4 (by decide)
set_option maxRecDepth 100000 in
set_option maxHeartbeats 4000000 in
theorem e_take0 (hL : CL sh V n K a0 c E R S HH) {i : Nat} (hi : i < 2) (hw0 : (HH i).2.2.2.1 = []) : fl_M cy z0 ext (d + 14) m_X6_take [.ref (z0 + c), .int (nI i)] sh V n (fun v sh' V' n' => v = some (.int (-1)) ∧ (∃ E' R', CL sh' V' n' K a0 c E' R' S HH) ∧ FC c K sh V n sh' V' n') := by
  obtain ⟨u1, ⟨gu, u2, u3⟩, u4, u5, ⟨ixs, u6⟩, u7, u8, u9⟩ := id hL
  unfold isCL at u1
  obtain ⟨so1, so2⟩ := id u5.1
  obtain ⟨io1, io2⟩ := id u6.1
  have lS : S.length ≤ 120 := u5.2.2.1
  have eS : V (c + 370) 1 = nI S.length := u5.2.2.2.2.1
  have hHo : isHostB (nI i) = true := by rcases i with _ | _ | i <;> first | rfl | omega
  have hi1 : vp_in (nI i) 2 := vp_in_nI hi (by decide)
  have hi2 : gu (nI i).toNatClampNeg = some (c + 2 + 184 * i) := by rw [nI_clamp (by omega)]; exact u3 i hi
  have hH := u4 i hi
  obtain ⟨hb, hhb⟩ : ∃ hb, hb = c + 2 + 184 * i := ⟨_, rfl⟩
  rw [← hhb] at hH hi2
  obtain ⟨⟨f1, ⟨gc, f2, f3⟩, f4, f5, f6⟩, HC, HS, ⟨wh, HW⟩, HQ, HB, HG, HI⟩ := id hH
  unfold isHo at f1
  rw [hw0] at HW
  have y1 := HW.1.1
  refine fs_body rfl rfl (fun Ret hP => ?_)
  refine fs_iload_n (pc2 := 1) rfl rfl rfl rfl ?_
  refine fs_calls (pc2 := 4) rfl rfl rfl rfl rfl rfl ⟨rfl, rfl⟩ (Nat.le_of_ble_eq_true rfl) (Nat.le_of_ble_eq_true rfl) (Nat.le_of_ble_eq_true rfl) (e_isHost (u := nI i)) (fun v9 sh9 V9 n9 hp9 => ?_)
  obtain ⟨ea9, eb9, ec9, hv9⟩ := hp9
  cases ea9
  obtain rfl := eb9.symm
  obtain rfl := ec9.symm
  cases hv9
  rw [hHo]
  refine fs_if_ne (pc2 := 7) rfl rfl rfl (fun h4 => ?_) (fun h4 => ?_)
  · refine fs_aload_n (pc2 := 16) rfl rfl rfl rfl ?_
    refine fs_getr (pc2 := 19) rfl rfl rfl (by assumption) rfl ?_
    refine fs_iload_n (pc2 := 20) rfl rfl rfl rfl ?_
    refine fs_aald (pc2 := 21) rfl rfl rfl (by assumption) hi1 hi2 ?_
    refine fs_astore_n (pc2 := 22) rfl rfl rfl (Nat.le_of_ble_eq_true rfl) ?_
    refine fs_aload_n (pc2 := 23) rfl rfl rfl rfl ?_
    refine fs_getr (pc2 := 26) rfl rfl rfl (by assumption) rfl ?_
    refine fs_callv (pc2 := 29) rfl rfl rfl rfl ⟨rfl, rfl⟩ (Nat.le_of_ble_eq_true rfl) (Nat.le_of_ble_eq_true rfl) (Nat.le_of_ble_eq_true rfl) (fs_rcv rfl (by assumption)) (e_Way_firstPacket0 HW) (fun v9 sh9 V9 n9 hp9 => ?_)
    obtain ⟨ea9, eb9, ec9, hv9⟩ := hp9
    cases ea9
    obtain rfl := eb9.symm
    obtain rfl := ec9.symm
    cases hv9
    refine fs_astore_n0 (pc2 := 30) rfl rfl rfl (Nat.le_of_ble_eq_true rfl) ?_
    refine fs_aload_n0 (pc2 := 31) rfl rfl rfl rfl ?_
    refine fs_ifnonnull0 (pc2 := 34) rfl rfl rfl ?_
    refine fs_iconst (pc2 := 35) rfl rfl rfl ?_
    refine fs_iret rfl rfl True.intro ?_
    exact hP _ _ _ _ ⟨rfl, ⟨_, _, hL⟩, FC.refl⟩
  · exact absurd h4 (by decide)
set_option maxRecDepth 100000 in
set_option maxHeartbeats 4000000 in
theorem e_take (hL : CL sh V n K a0 c E R S HH) (hA : AlOK cy z0 a0 ext) {i : Nat} (hi : i < 2) {y : Pkt} {ps : List Pkt} (hw0 : (HH i).2.2.2.1 = y :: ps) (h9 : (HH i).1 9 ≤ 255) (hlen : (HH i).2.2.2.2.1.length < 512) (hinv : ∀ j, j < 4 → ((HH i).2.1 j).1 3 ≤ 100 ∧ ∀ q, ((HH i).2.1 j).2.1 = some q → q ≤ 100) (hu4 : (ho_gath (HH i) y.1 y.2.2).1 = true → 4 ≤ (ho_gath (HH i) y.1 y.2.2).2.2.2.2.2.2.2.length) (hS : SI2 (va_up HH i (ho_take (HH i) y ps))) : fl_M cy z0 ext (d + 14) m_X6_take [.ref (z0 + c), .int (nI i)] sh V n (fun v sh' V' n' => v = some (.int (nI y.2.2.length)) ∧ (∃ E' R', CL sh' V' n' K a0 c E' R' S (st_send (va_up HH i (ho_take (HH i) y ps)))) ∧ FC c K sh V n sh' V' n') := by
  obtain ⟨u1, ⟨gu, u2, u3⟩, u4, u5, ⟨ixs, u6⟩, u7, u8, u9⟩ := id hL
  unfold isCL at u1
  obtain ⟨so1, so2⟩ := id u5.1
  obtain ⟨io1, io2⟩ := id u6.1
  have lS : S.length ≤ 120 := u5.2.2.1
  have eS : V (c + 370) 1 = nI S.length := u5.2.2.2.2.1
  have hHo : isHostB (nI i) = true := by rcases i with _ | _ | i <;> first | rfl | omega
  have hi1 : vp_in (nI i) 2 := vp_in_nI hi (by decide)
  have hi2 : gu (nI i).toNatClampNeg = some (c + 2 + 184 * i) := by rw [nI_clamp (by omega)]; exact u3 i hi
  have hH := u4 i hi
  obtain ⟨hb, hhb⟩ : ∃ hb, hb = c + 2 + 184 * i := ⟨_, rfl⟩
  rw [← hhb] at hH hi2
  obtain ⟨⟨f1, ⟨gc, f2, f3⟩, f4, f5, f6⟩, HC, HS, ⟨wh, HW⟩, HQ, HB, HG, HI⟩ := id hH
  unfold isHo at f1
  have HW0 := HW
  rw [hw0] at HW0
  have y1 := HW0.1.1
  have wl := HW0.2.1
  have pk := HW0.2.2.2.2.2.2.2 0 y rfl
  rw [show (wh + 0) % 32 = wh by omega] at pk
  obtain ⟨p, ep⟩ : ∃ p, p = hb + 81 + 2 + 3 * wh := ⟨_, rfl⟩
  rw [← ep] at pk
  obtain ⟨pk0, pk1, pk2, pk3⟩ := id pk
  obtain ⟨pr0, pr1⟩ := id pk3.1
  have ey : V (p + 1) 1 = nI y.2.2.length := pk3.2.2.2.2.1
  refine fs_body rfl rfl (fun Ret hP => ?_)
  refine fs_iload_n (pc2 := 1) rfl rfl rfl rfl ?_
  refine fs_calls (pc2 := 4) rfl rfl rfl rfl rfl rfl ⟨rfl, rfl⟩ (Nat.le_of_ble_eq_true rfl) (Nat.le_of_ble_eq_true rfl) (Nat.le_of_ble_eq_true rfl) (e_isHost (u := nI i)) (fun v9 sh9 V9 n9 hp9 => ?_)
  obtain ⟨ea9, eb9, ec9, hv9⟩ := hp9
  cases ea9
  obtain rfl := eb9.symm
  obtain rfl := ec9.symm
  cases hv9
  rw [hHo]
  refine fs_if_ne (pc2 := 7) rfl rfl rfl (fun h4 => ?_) (fun h4 => ?_)
  · refine fs_aload_n (pc2 := 16) rfl rfl rfl rfl ?_
    refine fs_getr (pc2 := 19) rfl rfl rfl (by assumption) rfl ?_
    refine fs_iload_n (pc2 := 20) rfl rfl rfl rfl ?_
    refine fs_aald (pc2 := 21) rfl rfl rfl (by assumption) hi1 hi2 ?_
    refine fs_astore_n (pc2 := 22) rfl rfl rfl (Nat.le_of_ble_eq_true rfl) ?_
    refine fs_aload_n (pc2 := 23) rfl rfl rfl rfl ?_
    refine fs_getr (pc2 := 26) rfl rfl rfl (by assumption) rfl ?_
    refine fs_callv (pc2 := 29) rfl rfl rfl rfl ⟨rfl, rfl⟩ (Nat.le_of_ble_eq_true rfl) (Nat.le_of_ble_eq_true rfl) (Nat.le_of_ble_eq_true rfl) (fs_rcv rfl (by assumption)) (e_Way_firstPacket HW0) (fun v9 sh9 V9 n9 hp9 => ?_)
    obtain ⟨ea9, eb9, ec9, hv9⟩ := hp9
    cases ea9
    obtain rfl := eb9.symm
    obtain rfl := ec9.symm
    cases hv9
    rw [← ep]
    refine fs_astore_n (pc2 := 30) rfl rfl rfl (Nat.le_of_ble_eq_true rfl) ?_
    refine fs_aload_n (pc2 := 31) rfl rfl rfl rfl ?_
    refine fs_ifnonnull rfl rfl ?_
    refine fs_aload_n (pc2 := 37) rfl rfl rfl rfl ?_
    refine fs_getr (pc2 := 40) rfl rfl rfl (by assumption) rfl ?_
    refine fs_geti (pc2 := 43) rfl rfl rfl (by assumption) rfl ?_
    refine fs_istore (pc2 := 45) rfl rfl rfl (Nat.le_of_ble_eq_true rfl) ?_
    refine fs_aload_n (pc2 := 46) rfl rfl rfl rfl ?_
    refine fs_aload_n (pc2 := 47) rfl rfl rfl rfl ?_
    refine fs_callv (pc2 := 50) rfl rfl rfl rfl ⟨rfl, rfl⟩ (Nat.le_of_ble_eq_true rfl) (Nat.le_of_ble_eq_true rfl) (Nat.le_of_ble_eq_true rfl) (fs_rcv rfl (by assumption)) (e_gather (p := p) (y := y) (by omega) (by omega) pk hH) (fun v9 sh9 V9 n9 hp9 => ?_)
    obtain ⟨ea9, eb9, ec9, k1, hf1⟩ := hp9
    cases ea9
    obtain rfl := eb9.symm
    obtain rfl := ec9.symm
    have f1x := k1.1.1
    unfold isHo at f1x
    obtain ⟨whx, HWx⟩ := k1.2.2.2.1
    have gw := ho_gath_keep (HH i) y.1 y.2.2
    rw [gw.1, hw0] at HWx
    have y1x := HWx.1.1
    refine fs_if_eq (pc2 := 53) rfl rfl rfl (fun h50 => ?_) (fun h50 => ?_)
    · have k50 : (ho_gath (HH i) y.1 y.2.2).1 = false := bI_0.mp h50
      refine fs_aload_n (pc2 := 58) rfl rfl rfl rfl ?_
      refine fs_getr (pc2 := 61) rfl rfl rfl (by assumption) rfl ?_
      refine fs_callv (pc2 := 64) rfl rfl rfl rfl ⟨rfl, rfl⟩ (Nat.le_of_ble_eq_true rfl) (Nat.le_of_ble_eq_true rfl) (Nat.le_of_ble_eq_true rfl) (fs_rcv rfl (by assumption)) (e_Way_dropFirst HWx) (fun v9 sh9 V9 n9 hp9 => ?_)
      obtain ⟨ea9, eb9, ec9, W1, hf3⟩ := hp9
      cases ea9
      obtain rfl := eb9.symm
      obtain rfl := ec9.symm
      obtain ⟨h1, W1⟩ := W1
      have k3 := k1.putW W1 (fun a ha => hf3 a (by omega))
      have k4 : Host sh V9 n K a0 hb (E i) (R i) (ho_take (HH i) y ps) := by unfold ho_take; rw [if_neg (by rw [k50]; decide)]; exact k3
      rw [hhb] at k4
      obtain ⟨L1, F1⟩ := hL.putB hi k4 (Fr.same (fun a ha => by rw [hf3 a (by omega), hf1 a (by omega)]))
      obtain ⟨u1z, ⟨guz, u2z, u3z⟩, u4z, u5z, ⟨ixsz, u6z⟩, u7z, u8z, u9z⟩ := id L1
      unfold isCL at u1z
      obtain ⟨so1z, so2z⟩ := id u5z.1
      obtain ⟨io1z, io2z⟩ := id u6z.1
      first | refine fs_pop_i (pc2 := 65) rfl rfl rfl ?_ | refine fs_pop_r (pc2 := 65) rfl rfl rfl ?_
      refine fs_aload_n (pc2 := 66) rfl rfl rfl rfl ?_
      refine fs_callv (pc2 := 69) rfl rfl rfl rfl ⟨rfl, rfl⟩ (Nat.le_of_ble_eq_true rfl) (Nat.le_of_ble_eq_true rfl) (Nat.le_of_ble_eq_true rfl) (fs_rcv rfl (by assumption)) (e_sendWhatCanGo L1 hA hS) (fun v9 sh9 V9 n9 hp9 => ?_)
      obtain ⟨ea9, eb9, ⟨R9, L9⟩, F9⟩ := hp9
      cases ea9
      obtain rfl := eb9.symm
      refine fs_iload (pc2 := 71) rfl rfl rfl rfl ?_
      refine fs_iret rfl rfl True.intro ?_
      rw [ey]
      exact hP _ _ _ _ ⟨rfl, ⟨_, _, L9⟩, F1.trans F9⟩
    · have k50 : (ho_gath (HH i) y.1 y.2.2).1 = true := by
        cases hb2 : (ho_gath (HH i) y.1 y.2.2).1 with
        | true => rfl
        | false => rw [hb2] at h50; exact absurd rfl h50
      refine fs_aload_n (pc2 := 54) rfl rfl rfl rfl ?_
      refine fs_callv (pc2 := 57) rfl rfl rfl rfl ⟨rfl, rfl⟩ (Nat.le_of_ble_eq_true rfl) (Nat.le_of_ble_eq_true rfl) (Nat.le_of_ble_eq_true rfl) (fs_rcv rfl (by assumption)) (e_handleUnit hA (by rw [gw.2.2.1]; exact h9) (by rw [gw.2.2.2]; exact hlen) (hu4 k50) (by rw [gw.2.1]; exact hinv) k1) (fun v9 sh9 V9 n9 hp9 => ?_)
      obtain ⟨ea9, e1, rs1, k2, fr⟩ := hp9
      cases ea9
      have f2x := k2.1.1
      unfold isHo at f2x
      obtain ⟨why, HWy⟩ := k2.2.2.2.1
      rw [ho_unitH_way, gw.1, hw0] at HWy
      have y1y := HWy.1.1
      refine fs_aload_n (pc2 := 58) rfl rfl rfl rfl ?_
      refine fs_getr (pc2 := 61) rfl rfl rfl (by assumption) rfl ?_
      refine fs_callv (pc2 := 64) rfl rfl rfl rfl ⟨rfl, rfl⟩ (Nat.le_of_ble_eq_true rfl) (Nat.le_of_ble_eq_true rfl) (Nat.le_of_ble_eq_true rfl) (fs_rcv rfl (by assumption)) (e_Way_dropFirst HWy) (fun v9 sh9 V9 n9 hp9 => ?_)
      obtain ⟨ea9, eb9, ec9, W1, hf3⟩ := hp9
      cases ea9
      obtain rfl := eb9.symm
      obtain rfl := ec9.symm
      obtain ⟨h1, W1⟩ := W1
      have k3 := k2.putW W1 (fun a ha => hf3 a (by omega))
      have k4 : Host sh9 V9 n9 K a0 hb e1 rs1 (ho_take (HH i) y ps) := by unfold ho_take; rw [if_pos k50]; exact k3
      rw [hhb] at k4 fr
      obtain ⟨L1, F1⟩ := hL.putB hi k4 (Fr.post (Fr.pre (fun a ha => hf1 a (by omega)) fr) (fun a ha => hf3 a (by omega)))
      obtain ⟨u1z, ⟨guz, u2z, u3z⟩, u4z, u5z, ⟨ixsz, u6z⟩, u7z, u8z, u9z⟩ := id L1
      unfold isCL at u1z
      obtain ⟨so1z, so2z⟩ := id u5z.1
      obtain ⟨io1z, io2z⟩ := id u6z.1
      first | refine fs_pop_i (pc2 := 65) rfl rfl rfl ?_ | refine fs_pop_r (pc2 := 65) rfl rfl rfl ?_
      refine fs_aload_n (pc2 := 66) rfl rfl rfl rfl ?_
      refine fs_callv (pc2 := 69) rfl rfl rfl rfl ⟨rfl, rfl⟩ (Nat.le_of_ble_eq_true rfl) (Nat.le_of_ble_eq_true rfl) (Nat.le_of_ble_eq_true rfl) (fs_rcv rfl (by assumption)) (e_sendWhatCanGo L1 hA hS) (fun v9 sh9 V9 n9 hp9 => ?_)
      obtain ⟨ea9, eb9, ⟨R9, L9⟩, F9⟩ := hp9
      cases ea9
      obtain rfl := eb9.symm
      refine fs_iload (pc2 := 71) rfl rfl rfl rfl ?_
      refine fs_iret rfl rfl True.intro ?_
      rw [ey]
      exact hP _ _ _ _ ⟨rfl, ⟨_, _, L9⟩, F1.trans F9⟩
  · exact absurd h4 (by decide)
set_option maxRecDepth 100000 in
set_option maxHeartbeats 4000000 in
theorem e_receive0 (hL : CL sh V n K a0 c E R S HH) {i : Nat} (hi : i < 2) {k : Nat} (hk : k < 4) (hr0 : ((HH i).2.1 k).2.2.2.1 = []) : fl_M cy z0 ext (d + 13) m_X6_receive [.ref (z0 + c), .int (nI i), .int (nI (64 + k))] sh V n (fun v sh' V' n' => v = some (.int (-1)) ∧ (∃ E' R', CL sh' V' n' K a0 c E' R' S HH) ∧ FC c K sh V n sh' V' n') := by
  obtain ⟨u1, ⟨gu, u2, u3⟩, u4, u5, ⟨ixs, u6⟩, u7, u8, u9⟩ := id hL
  unfold isCL at u1
  obtain ⟨so1, so2⟩ := id u5.1
  obtain ⟨io1, io2⟩ := id u6.1
  have lS : S.length ≤ 120 := u5.2.2.1
  have eS : V (c + 370) 1 = nI S.length := u5.2.2.2.2.1
  have hHo : isHostB (nI i) = true := by rcases i with _ | _ | i <;> first | rfl | omega
  have hKo : isChB (nI (64 + k)) = true := by rw [isChB_nI (by omega)]; exact decide_eq_true (by omega)
  have hi1 : vp_in (nI i) 2 := vp_in_nI hi (by decide)
  have hi2 : gu (nI i).toNatClampNeg = some (c + 2 + 184 * i) := by rw [nI_clamp (by omega)]; exact u3 i hi
  have hH := u4 i hi
  obtain ⟨hb, hhb⟩ : ∃ hb, hb = c + 2 + 184 * i := ⟨_, rfl⟩
  rw [← hhb] at hH hi2
  obtain ⟨⟨f1, ⟨gc, f2, f3⟩, f4, f5, f6⟩, HC, HS, ⟨wh, HW⟩, HQ, HB, HG, HI⟩ := id hH
  unfold isHo at f1
  have ki : nI (64 + k) - 64 = nI k := by rw [show (64 : Int32) = nI 64 from rfl, pk_sub (by omega)]; congr 1; omega
  have ki1 : vp_in (nI (64 + k) - 64) 4 := by rw [ki]; exact vp_in_nI hk (by decide)
  have ki2 : gc (nI (64 + k) - 64).toNatClampNeg = some (hb + 2 + 19 * k) := by rw [ki, nI_clamp (by omega)]; exact f3 k hk
  have C0 := (HC k hk).1
  have n0 := (HC k hk).2
  have s0 := C0.1
  unfold isChan at s0
  obtain ⟨rh, RX⟩ := C0.2.2.2.2.2.2.1
  rw [hr0] at RX
  have rx0 := RX.1.1
  refine fs_body rfl rfl (fun Ret hP => ?_)
  refine fs_iload_n (pc2 := 1) rfl rfl rfl rfl ?_
  refine fs_calls (pc2 := 4) rfl rfl rfl rfl rfl rfl ⟨rfl, rfl⟩ (Nat.le_of_ble_eq_true rfl) (Nat.le_of_ble_eq_true rfl) (Nat.le_of_ble_eq_true rfl) (e_isHost (u := nI i)) (fun v9 sh9 V9 n9 hp9 => ?_)
  obtain ⟨ea9, eb9, ec9, hv9⟩ := hp9
  cases ea9
  obtain rfl := eb9.symm
  obtain rfl := ec9.symm
  cases hv9
  rw [hHo]
  refine fs_if_eq (pc2 := 7) rfl rfl rfl (fun h4 => ?_) (fun h4 => ?_)
  · exact absurd h4 (by decide)
  · refine fs_iload_n (pc2 := 8) rfl rfl rfl rfl ?_
    refine fs_calls (pc2 := 11) rfl rfl rfl rfl rfl rfl ⟨rfl, rfl⟩ (Nat.le_of_ble_eq_true rfl) (Nat.le_of_ble_eq_true rfl) (Nat.le_of_ble_eq_true rfl) (e_isChannel (u := nI (64 + k))) (fun v9 sh9 V9 n9 hp9 => ?_)
    obtain ⟨ea9, eb9, ec9, hv9⟩ := hp9
    cases ea9
    obtain rfl := eb9.symm
    obtain rfl := ec9.symm
    cases hv9
    rw [hKo]
    refine fs_if_ne (pc2 := 14) rfl rfl rfl (fun h11 => ?_) (fun h11 => ?_)
    · refine fs_aload_n (pc2 := 23) rfl rfl rfl rfl ?_
      refine fs_getr (pc2 := 26) rfl rfl rfl (by assumption) rfl ?_
      refine fs_iload_n (pc2 := 27) rfl rfl rfl rfl ?_
      refine fs_aald (pc2 := 28) rfl rfl rfl (by assumption) hi1 hi2 ?_
      refine fs_getr (pc2 := 31) rfl rfl rfl (by assumption) rfl ?_
      refine fs_iload_n (pc2 := 32) rfl rfl rfl rfl ?_
      refine fs_bipush (pc2 := 34) rfl rfl rfl ?_
      refine fs_isub (pc2 := 35) rfl rfl rfl ?_
      refine fs_aald (pc2 := 36) rfl rfl rfl (by assumption) ki1 ki2 ?_
      refine fs_getr (pc2 := 39) rfl rfl rfl (by assumption) rfl ?_
      refine fs_astore_n (pc2 := 40) rfl rfl rfl (Nat.le_of_ble_eq_true rfl) ?_
      refine fs_aload_n (pc2 := 41) rfl rfl rfl rfl ?_
      refine fs_callv (pc2 := 44) rfl rfl rfl rfl ⟨rfl, rfl⟩ (Nat.le_of_ble_eq_true rfl) (Nat.le_of_ble_eq_true rfl) (Nat.le_of_ble_eq_true rfl) (fs_rcv rfl (by assumption)) (e_Texts_first0 RX) (fun v9 sh9 V9 n9 hp9 => ?_)
      obtain ⟨ea9, eb9, ec9, hv9⟩ := hp9
      cases ea9
      obtain rfl := eb9.symm
      obtain rfl := ec9.symm
      cases hv9
      refine fs_astore0 (pc2 := 46) rfl rfl rfl (Nat.le_of_ble_eq_true rfl) ?_
      refine fs_aload0 (pc2 := 48) rfl rfl rfl rfl ?_
      refine fs_ifnonnull0 (pc2 := 51) rfl rfl rfl ?_
      refine fs_iconst (pc2 := 52) rfl rfl rfl ?_
      refine fs_iret rfl rfl True.intro ?_
      exact hP _ _ _ _ ⟨rfl, ⟨_, _, hL⟩, FC.refl⟩
    · exact absurd h11 (by decide)
set_option maxRecDepth 100000 in
set_option maxHeartbeats 4000000 in
theorem e_receive (hL : CL sh V n K a0 c E R S HH) {i : Nat} (hi : i < 2) {k : Nat} (hk : k < 4) {x : List Nat} {rx : List (List Nat)} (hr0 : ((HH i).2.1 k).2.2.2.1 = x :: rx) : fl_M cy z0 ext (d + 13) m_X6_receive [.ref (z0 + c), .int (nI i), .int (nI (64 + k))] sh V n (fun v sh' V' n' => v = some (.int (nI x.length)) ∧ (∃ E' R', CL sh' V' n' K a0 c E' R' x (va_up HH i (hoC (HH i) k (rxDrop ((HH i).2.1 k) rx)))) ∧ FC c K sh V n sh' V' n') := by
  obtain ⟨u1, ⟨gu, u2, u3⟩, u4, u5, ⟨ixs, u6⟩, u7, u8, u9⟩ := id hL
  unfold isCL at u1
  obtain ⟨so1, so2⟩ := id u5.1
  obtain ⟨io1, io2⟩ := id u6.1
  have lS : S.length ≤ 120 := u5.2.2.1
  have eS : V (c + 370) 1 = nI S.length := u5.2.2.2.2.1
  have hHo : isHostB (nI i) = true := by rcases i with _ | _ | i <;> first | rfl | omega
  have hKo : isChB (nI (64 + k)) = true := by rw [isChB_nI (by omega)]; exact decide_eq_true (by omega)
  have hi1 : vp_in (nI i) 2 := vp_in_nI hi (by decide)
  have hi2 : gu (nI i).toNatClampNeg = some (c + 2 + 184 * i) := by rw [nI_clamp (by omega)]; exact u3 i hi
  have hH := u4 i hi
  obtain ⟨hb, hhb⟩ : ∃ hb, hb = c + 2 + 184 * i := ⟨_, rfl⟩
  rw [← hhb] at hH hi2
  obtain ⟨⟨f1, ⟨gc, f2, f3⟩, f4, f5, f6⟩, HC, HS, ⟨wh, HW⟩, HQ, HB, HG, HI⟩ := id hH
  unfold isHo at f1
  have ki : nI (64 + k) - 64 = nI k := by rw [show (64 : Int32) = nI 64 from rfl, pk_sub (by omega)]; congr 1; omega
  have ki1 : vp_in (nI (64 + k) - 64) 4 := by rw [ki]; exact vp_in_nI hk (by decide)
  have ki2 : gc (nI (64 + k) - 64).toNatClampNeg = some (hb + 2 + 19 * k) := by rw [ki, nI_clamp (by omega)]; exact f3 k hk
  have C0 := (HC k hk).1
  have n0 := (HC k hk).2
  have s0 := C0.1
  unfold isChan at s0
  obtain ⟨rh, RX⟩ := C0.2.2.2.2.2.2.1
  rw [hr0] at RX
  have rx0 := RX.1.1
  have hh : tslot rh 4 0 = rh := by have := RX.2.2.1; unfold tslot; split <;> omega
  have ht0 := RX.2.2.2.2.2.2.2 0 x rfl
  have lrh := RX.2.2.1
  rw [hh] at ht0
  obtain ⟨a, ea⟩ : ∃ a, a = hb + 2 + 19 * k + 7 + 2 + 2 * rh := ⟨_, rfl⟩
  rw [← ea] at ht0
  obtain ⟨x0, x1⟩ := id ht0.1
  have lx : x.length ≤ 100 := ht0.2.2.1
  refine fs_body rfl rfl (fun Ret hP => ?_)
  refine fs_iload_n (pc2 := 1) rfl rfl rfl rfl ?_
  refine fs_calls (pc2 := 4) rfl rfl rfl rfl rfl rfl ⟨rfl, rfl⟩ (Nat.le_of_ble_eq_true rfl) (Nat.le_of_ble_eq_true rfl) (Nat.le_of_ble_eq_true rfl) (e_isHost (u := nI i)) (fun v9 sh9 V9 n9 hp9 => ?_)
  obtain ⟨ea9, eb9, ec9, hv9⟩ := hp9
  cases ea9
  obtain rfl := eb9.symm
  obtain rfl := ec9.symm
  cases hv9
  rw [hHo]
  refine fs_if_eq (pc2 := 7) rfl rfl rfl (fun h4 => ?_) (fun h4 => ?_)
  · exact absurd h4 (by decide)
  · refine fs_iload_n (pc2 := 8) rfl rfl rfl rfl ?_
    refine fs_calls (pc2 := 11) rfl rfl rfl rfl rfl rfl ⟨rfl, rfl⟩ (Nat.le_of_ble_eq_true rfl) (Nat.le_of_ble_eq_true rfl) (Nat.le_of_ble_eq_true rfl) (e_isChannel (u := nI (64 + k))) (fun v9 sh9 V9 n9 hp9 => ?_)
    obtain ⟨ea9, eb9, ec9, hv9⟩ := hp9
    cases ea9
    obtain rfl := eb9.symm
    obtain rfl := ec9.symm
    cases hv9
    rw [hKo]
    refine fs_if_ne (pc2 := 14) rfl rfl rfl (fun h11 => ?_) (fun h11 => ?_)
    · refine fs_aload_n (pc2 := 23) rfl rfl rfl rfl ?_
      refine fs_getr (pc2 := 26) rfl rfl rfl (by assumption) rfl ?_
      refine fs_iload_n (pc2 := 27) rfl rfl rfl rfl ?_
      refine fs_aald (pc2 := 28) rfl rfl rfl (by assumption) hi1 hi2 ?_
      refine fs_getr (pc2 := 31) rfl rfl rfl (by assumption) rfl ?_
      refine fs_iload_n (pc2 := 32) rfl rfl rfl rfl ?_
      refine fs_bipush (pc2 := 34) rfl rfl rfl ?_
      refine fs_isub (pc2 := 35) rfl rfl rfl ?_
      refine fs_aald (pc2 := 36) rfl rfl rfl (by assumption) ki1 ki2 ?_
      refine fs_getr (pc2 := 39) rfl rfl rfl (by assumption) rfl ?_
      refine fs_astore_n (pc2 := 40) rfl rfl rfl (Nat.le_of_ble_eq_true rfl) ?_
      refine fs_aload_n (pc2 := 41) rfl rfl rfl rfl ?_
      refine fs_callv (pc2 := 44) rfl rfl rfl rfl ⟨rfl, rfl⟩ (Nat.le_of_ble_eq_true rfl) (Nat.le_of_ble_eq_true rfl) (Nat.le_of_ble_eq_true rfl) (fs_rcv rfl (by assumption)) (e_Texts_first RX) (fun v9 sh9 V9 n9 hp9 => ?_)
      obtain ⟨ea9, eb9, ec9, hv9⟩ := hp9
      cases ea9
      obtain rfl := eb9.symm
      obtain rfl := ec9.symm
      cases hv9
      rw [← ea]
      refine fs_astore (pc2 := 46) rfl rfl rfl (Nat.le_of_ble_eq_true rfl) ?_
      refine fs_aload (pc2 := 48) rfl rfl rfl rfl ?_
      refine fs_ifnonnull rfl rfl ?_
      refine fs_aload_n (pc2 := 54) rfl rfl rfl rfl ?_
      refine fs_getr (pc2 := 57) rfl rfl rfl (by assumption) rfl ?_
      refine fs_callv (pc2 := 60) rfl rfl rfl rfl ⟨rfl, rfl⟩ (Nat.le_of_ble_eq_true rfl) (Nat.le_of_ble_eq_true rfl) (Nat.le_of_ble_eq_true rfl) (fs_rcv rfl (by assumption)) (e_Row_clear u5) (fun v9 sh9 V9 n9 hp9 => ?_)
      obtain ⟨ea9, eb9, ec9, hr1, hf1⟩ := hp9
      cases ea9
      obtain rfl := eb9.symm
      obtain rfl := ec9.symm
      have ht1 := ht0.kept (hf1 a (by omega)) (hf1 (a + 1) (by omega))
      have ex : V9 a 1 = nI x.length := ht1.2.2.2.2.1
      refine fs_aload_n (pc2 := 61) rfl rfl rfl rfl ?_
      refine fs_getr (pc2 := 64) rfl rfl rfl (by assumption) rfl ?_
      refine fs_aload (pc2 := 66) rfl rfl rfl rfl ?_
      refine fs_iconst (pc2 := 67) rfl rfl rfl ?_
      refine fs_aload (pc2 := 69) rfl rfl rfl rfl ?_
      refine fs_geti (pc2 := 72) rfl rfl rfl (by assumption) rfl ?_
      refine fs_callv (pc2 := 75) rfl rfl rfl rfl ⟨rfl, rfl⟩ (Nat.le_of_ble_eq_true rfl) (Nat.le_of_ble_eq_true rfl) (Nat.le_of_ble_eq_true rfl) (fs_rcv rfl (by assumption)) (by rw [ex]; exact e_Row_addPart (s := 0) (by decide) (by omega) hr1 ht1 (by omega) (by omega) (by omega) (by simp; omega)) (fun v9 sh9 V9 n9 hp9 => ?_)
      obtain ⟨ea9, eb9, ec9, hr2, hf2⟩ := hp9
      cases ea9
      obtain rfl := eb9.symm
      obtain rfl := ec9.symm
      rw [List.nil_append, List.drop_zero, List.take_of_length_le (Nat.le_refl _)] at hr2
      have RX2 := RX.kept (V' := V9) (fun b b1 b2 => by rw [hf2 b (by omega) (by omega), hf1 b (by omega)])
      obtain ⟨L1, F1⟩ := hL.putS hr2 (fun b b1 b2 => by rw [hf2 b b1 b2, hf1 b b1])
      refine fs_aload_n (pc2 := 76) rfl rfl rfl rfl ?_
      refine fs_callv (pc2 := 79) rfl rfl rfl rfl ⟨rfl, rfl⟩ (Nat.le_of_ble_eq_true rfl) (Nat.le_of_ble_eq_true rfl) (Nat.le_of_ble_eq_true rfl) (fs_rcv rfl (by assumption)) (e_Texts_dropFirst RX2) (fun v9 sh9 V9 n9 hp9 => ?_)
      obtain ⟨ea9, eb9, ec9, T3, hf3⟩ := hp9
      cases ea9
      obtain rfl := eb9.symm
      obtain rfl := ec9.symm
      obtain ⟨h3, T3⟩ := T3
      have H1 := L1.host hi
      rw [← hhb] at H1
      have C1 := (H1.ch hk).putRx T3 (fun b hb2 => hf3 b (by omega))
      have k2 := H1.putC hk C1 n0 (fun b hb2 => hf3 b (by omega))
      rw [hhb] at k2
      obtain ⟨L2, F2⟩ := L1.putB hi k2 (Fr.same (fun b hb2 => hf3 b (by omega)))
      have eS2 : V9 (c + 370) 1 = nI x.length := L2.2.2.2.1.2.2.2.2.1
      refine fs_aload_n (pc2 := 80) rfl rfl rfl rfl ?_
      refine fs_getr (pc2 := 83) rfl rfl rfl (by assumption) rfl ?_
      refine fs_geti (pc2 := 86) rfl rfl rfl (by assumption) rfl ?_
      refine fs_iret rfl rfl True.intro ?_
      rw [eS2]
      exact hP _ _ _ _ ⟨rfl, ⟨_, _, L2⟩, F1.trans F2⟩
    · exact absurd h11 (by decide)
set_option maxRecDepth 100000 in
set_option maxHeartbeats 4000000 in
theorem e_channel (hL : CL sh V n K a0 c E R S HH) {i : Nat} (hi : i < 2) {k : Nat} (hk : k < 4) {w : Nat} (hw : w < 8) : fl_M cy z0 ext (d + 13) m_X6_channel [.ref (z0 + c), .int (nI i), .int (nI (64 + k)), .int (nI w)] sh V n (fun v sh' V' n' => v = some (.int (nI (chVal ((HH i).2.1 k) w))) ∧ sh' = sh ∧ n' = n ∧ V' = V) := by
  obtain ⟨u1, ⟨gu, u2, u3⟩, u4, u5, ⟨ixs, u6⟩, u7, u8, u9⟩ := id hL
  unfold isCL at u1
  obtain ⟨so1, so2⟩ := id u5.1
  obtain ⟨io1, io2⟩ := id u6.1
  have lS : S.length ≤ 120 := u5.2.2.1
  have eS : V (c + 370) 1 = nI S.length := u5.2.2.2.2.1
  have hHo : isHostB (nI i) = true := by rcases i with _ | _ | i <;> first | rfl | omega
  have hKo : isChB (nI (64 + k)) = true := by rw [isChB_nI (by omega)]; exact decide_eq_true (by omega)
  have hi1 : vp_in (nI i) 2 := vp_in_nI hi (by decide)
  have hi2 : gu (nI i).toNatClampNeg = some (c + 2 + 184 * i) := by rw [nI_clamp (by omega)]; exact u3 i hi
  have hH := u4 i hi
  obtain ⟨hb, hhb⟩ : ∃ hb, hb = c + 2 + 184 * i := ⟨_, rfl⟩
  rw [← hhb] at hH hi2
  obtain ⟨⟨f1, ⟨gc, f2, f3⟩, f4, f5, f6⟩, HC, HS, ⟨wh, HW⟩, HQ, HB, HG, HI⟩ := id hH
  unfold isHo at f1
  have ki : nI (64 + k) - 64 = nI k := by rw [show (64 : Int32) = nI 64 from rfl, pk_sub (by omega)]; congr 1; omega
  have ki1 : vp_in (nI (64 + k) - 64) 4 := by rw [ki]; exact vp_in_nI hk (by decide)
  have ki2 : gc (nI (64 + k) - 64).toNatClampNeg = some (hb + 2 + 19 * k) := by rw [ki, nI_clamp (by omega)]; exact f3 k hk
  have C0 := (HC k hk).1
  have n0 := (HC k hk).2
  have s0 := C0.1
  unfold isChan at s0
  obtain ⟨h1, g6⟩ := C0.2.2.2.2.2.1
  obtain ⟨h2, g7⟩ := C0.2.2.2.2.2.2.1
  have t0 := g6.1.1
  have r0 := g7.1.1
  refine fs_body rfl rfl (fun Ret hP => ?_)
  refine fs_iload_n (pc2 := 1) rfl rfl rfl rfl ?_
  refine fs_calls (pc2 := 4) rfl rfl rfl rfl rfl rfl ⟨rfl, rfl⟩ (Nat.le_of_ble_eq_true rfl) (Nat.le_of_ble_eq_true rfl) (Nat.le_of_ble_eq_true rfl) (e_isHost (u := nI i)) (fun v9 sh9 V9 n9 hp9 => ?_)
  obtain ⟨ea9, eb9, ec9, hv9⟩ := hp9
  cases ea9
  obtain rfl := eb9.symm
  obtain rfl := ec9.symm
  cases hv9
  rw [hHo]
  refine fs_if_eq (pc2 := 7) rfl rfl rfl (fun h4 => ?_) (fun h4 => ?_)
  · exact absurd h4 (by decide)
  · refine fs_iload_n (pc2 := 8) rfl rfl rfl rfl ?_
    refine fs_calls (pc2 := 11) rfl rfl rfl rfl rfl rfl ⟨rfl, rfl⟩ (Nat.le_of_ble_eq_true rfl) (Nat.le_of_ble_eq_true rfl) (Nat.le_of_ble_eq_true rfl) (e_isChannel (u := nI (64 + k))) (fun v9 sh9 V9 n9 hp9 => ?_)
    obtain ⟨ea9, eb9, ec9, hv9⟩ := hp9
    cases ea9
    obtain rfl := eb9.symm
    obtain rfl := ec9.symm
    cases hv9
    rw [hKo]
    refine fs_if_eq (pc2 := 14) rfl rfl rfl (fun h11 => ?_) (fun h11 => ?_)
    · exact absurd h11 (by decide)
    · refine fs_iload_n (pc2 := 15) rfl rfl rfl rfl ?_
      refine fs_if_lt (pc2 := 18) rfl rfl rfl (fun h15 => ?_) (fun h15 => ?_)
      · exact absurd h15 (nI_pos (by omega))
      · refine fs_iload_n (pc2 := 19) rfl rfl rfl rfl ?_
        refine fs_bipush (pc2 := 21) rfl rfl rfl ?_
        refine fs_icmp_le (pc2 := 24) rfl rfl rfl (fun h21 => ?_) (fun h21 => ?_)
        · refine fs_aload_n (pc2 := 33) rfl rfl rfl rfl ?_
          refine fs_getr (pc2 := 36) rfl rfl rfl (by assumption) rfl ?_
          refine fs_iload_n (pc2 := 37) rfl rfl rfl rfl ?_
          refine fs_aald (pc2 := 38) rfl rfl rfl (by assumption) hi1 hi2 ?_
          refine fs_getr (pc2 := 41) rfl rfl rfl (by assumption) rfl ?_
          refine fs_iload_n (pc2 := 42) rfl rfl rfl rfl ?_
          refine fs_bipush (pc2 := 44) rfl rfl rfl ?_
          refine fs_isub (pc2 := 45) rfl rfl rfl ?_
          refine fs_aald (pc2 := 46) rfl rfl rfl (by assumption) ki1 ki2 ?_
          refine fs_astore (pc2 := 48) rfl rfl rfl (Nat.le_of_ble_eq_true rfl) ?_
          refine fs_iload_n (pc2 := 49) rfl rfl rfl rfl ?_
          rcases (by omega : w = 0 ∨ w = 1 ∨ w = 2 ∨ w = 3 ∨ w = 4 ∨ w = 5 ∨ w = 6 ∨ w = 7) with rfl | rfl | rfl | rfl | rfl | rfl | rfl | rfl
          · refine fs_tsw (off := 43) (pc2 := 92) rfl rfl (by decide) (by decide) rfl rfl ?_
            refine fs_aload (pc2 := 94) rfl rfl rfl rfl ?_
            refine fs_geti (pc2 := 97) rfl rfl rfl (by assumption) rfl ?_
            refine fs_iret rfl rfl True.intro ?_
            exact hP _ _ _ _ ⟨by rw [(C0.i 1 (by omega)).1]; rfl, rfl, rfl, rfl⟩
          · refine fs_tsw (off := 49) (pc2 := 98) rfl rfl (by decide) (by decide) rfl rfl ?_
            refine fs_aload (pc2 := 100) rfl rfl rfl rfl ?_
            refine fs_geti (pc2 := 103) rfl rfl rfl (by assumption) rfl ?_
            refine fs_iret rfl rfl True.intro ?_
            exact hP _ _ _ _ ⟨by rw [(C0.i 6 (by omega)).1]; rfl, rfl, rfl, rfl⟩
          · refine fs_tsw (off := 55) (pc2 := 104) rfl rfl (by decide) (by decide) rfl rfl ?_
            refine fs_aload (pc2 := 106) rfl rfl rfl rfl ?_
            refine fs_geti (pc2 := 109) rfl rfl rfl (by assumption) rfl ?_
            refine fs_iret rfl rfl True.intro ?_
            exact hP _ _ _ _ ⟨by rw [(C0.i 9 (by omega)).1]; rfl, rfl, rfl, rfl⟩
          · refine fs_tsw (off := 61) (pc2 := 110) rfl rfl (by decide) (by decide) rfl rfl ?_
            refine fs_aload (pc2 := 112) rfl rfl rfl rfl ?_
            refine fs_geti (pc2 := 115) rfl rfl rfl (by assumption) rfl ?_
            refine fs_iret rfl rfl True.intro ?_
            exact hP _ _ _ _ ⟨by rw [(C0.i 5 (by omega)).1]; rfl, rfl, rfl, rfl⟩
          · refine fs_tsw (off := 67) (pc2 := 116) rfl rfl (by decide) (by decide) rfl rfl ?_
            refine fs_aload (pc2 := 118) rfl rfl rfl rfl ?_
            refine fs_getr (pc2 := 121) rfl rfl rfl (by assumption) rfl ?_
            refine fs_geti (pc2 := 124) rfl rfl rfl (by assumption) rfl ?_
            refine fs_iret rfl rfl True.intro ?_
            exact hP _ _ _ _ ⟨by rw [g6.2.2.2.2.2.1]; rfl, rfl, rfl, rfl⟩
          · refine fs_tsw (off := 76) (pc2 := 125) rfl rfl (by decide) (by decide) rfl rfl ?_
            refine fs_aload (pc2 := 127) rfl rfl rfl rfl ?_
            refine fs_getr (pc2 := 130) rfl rfl rfl (by assumption) rfl ?_
            refine fs_geti (pc2 := 133) rfl rfl rfl (by assumption) rfl ?_
            refine fs_iret rfl rfl True.intro ?_
            exact hP _ _ _ _ ⟨by rw [g7.2.2.2.2.2.1]; rfl, rfl, rfl, rfl⟩
          · refine fs_tsw (off := 85) (pc2 := 134) rfl rfl (by decide) (by decide) rfl rfl ?_
            refine fs_aload (pc2 := 136) rfl rfl rfl rfl ?_
            refine fs_geti (pc2 := 139) rfl rfl rfl (by assumption) rfl ?_
            refine fs_iret rfl rfl True.intro ?_
            exact hP _ _ _ _ ⟨by rw [(C0.i 7 (by omega)).1]; rfl, rfl, rfl, rfl⟩
          · refine fs_tswd (pc2 := 140) rfl rfl (by decide) rfl ?_
            refine fs_aload (pc2 := 142) rfl rfl rfl rfl ?_
            refine fs_geti (pc2 := 145) rfl rfl rfl (by assumption) rfl ?_
            refine fs_iret rfl rfl True.intro ?_
            exact hP _ _ _ _ ⟨by rw [(C0.i 8 (by omega)).1]; rfl, rfl, rfl, rfl⟩
        · exact absurd (nI_le (a := w) (b := 7) (by omega) (by decide)) h21
set_option maxRecDepth 100000 in
set_option maxHeartbeats 4000000 in
theorem e_count (hL : CL sh V n K a0 c E R S HH) {i : Nat} (hi : i < 2) (h4 : sents (HH (1 - i)).2.2.2.1 ≤ 4) {w : Nat} (hw : w < 7) : fl_M cy z0 ext (d + 13) m_X6_count [.ref (z0 + c), .int (nI i), .int (nI w)] sh V n (fun v sh' V' n' => v = some (.int (nI (cntVal (HH i) (HH (1 - i)) w))) ∧ sh' = sh ∧ n' = n ∧ V' = V) := by
  obtain ⟨u1, ⟨gu, u2, u3⟩, u4, u5, ⟨ixs, u6⟩, u7, u8, u9⟩ := id hL
  unfold isCL at u1
  obtain ⟨so1, so2⟩ := id u5.1
  obtain ⟨io1, io2⟩ := id u6.1
  have lS : S.length ≤ 120 := u5.2.2.1
  have eS : V (c + 370) 1 = nI S.length := u5.2.2.2.2.1
  have hHo : isHostB (nI i) = true := by rcases i with _ | _ | i <;> first | rfl | omega
  have hi1 : vp_in (nI i) 2 := vp_in_nI hi (by decide)
  have hi2 : gu (nI i).toNatClampNeg = some (c + 2 + 184 * i) := by rw [nI_clamp (by omega)]; exact u3 i hi
  have hH := u4 i hi
  obtain ⟨hb, hhb⟩ : ∃ hb, hb = c + 2 + 184 * i := ⟨_, rfl⟩
  rw [← hhb] at hH hi2
  obtain ⟨⟨f1, ⟨gc, f2, f3⟩, f4, f5, f6⟩, HC, HS, ⟨wh, HW⟩, HQ, HB, HG, HI⟩ := id hH
  unfold isHo at f1
  have y1 := HW.1.1
  have al := HQ.1
  unfold eAl at al
  obtain ⟨t1, t2⟩ := id HG.1
  have O := u4 (1 - i) (by omega)
  have o1 := O.1.1
  unfold isHo at o1
  obtain ⟨ow, OW⟩ := O.2.2.2.1
  have oy := OW.1.1
  have eo : (1 : Int32) - nI i = nI (1 - i) := pk_sub (a := 1) (by omega)
  have oi1 : vp_in (1 - nI i) 2 := by rw [eo]; exact vp_in_nI (by omega) (by decide)
  have oi2 : gu (1 - nI i).toNatClampNeg = some (c + 2 + 184 * (1 - i)) := by rw [eo, nI_clamp (by omega)]; exact u3 (1 - i) (by omega)
  have e4 : (4 : Int32) - nI (sents (HH (1 - i)).2.2.2.1) = nI (4 - sents (HH (1 - i)).2.2.2.1) := pk_sub (a := 4) h4
  refine fs_body rfl rfl (fun Ret hP => ?_)
  refine fs_iload_n (pc2 := 1) rfl rfl rfl rfl ?_
  refine fs_calls (pc2 := 4) rfl rfl rfl rfl rfl rfl ⟨rfl, rfl⟩ (Nat.le_of_ble_eq_true rfl) (Nat.le_of_ble_eq_true rfl) (Nat.le_of_ble_eq_true rfl) (e_isHost (u := nI i)) (fun v9 sh9 V9 n9 hp9 => ?_)
  obtain ⟨ea9, eb9, ec9, hv9⟩ := hp9
  cases ea9
  obtain rfl := eb9.symm
  obtain rfl := ec9.symm
  cases hv9
  rw [hHo]
  refine fs_if_eq (pc2 := 7) rfl rfl rfl (fun h4 => ?_) (fun h4 => ?_)
  · exact absurd h4 (by decide)
  · refine fs_iload_n (pc2 := 8) rfl rfl rfl rfl ?_
    refine fs_if_lt (pc2 := 11) rfl rfl rfl (fun h8 => ?_) (fun h8 => ?_)
    · exact absurd h8 (nI_pos (by omega))
    · refine fs_iload_n (pc2 := 12) rfl rfl rfl rfl ?_
      refine fs_bipush (pc2 := 14) rfl rfl rfl ?_
      refine fs_icmp_le (pc2 := 17) rfl rfl rfl (fun h14 => ?_) (fun h14 => ?_)
      · refine fs_aload_n (pc2 := 26) rfl rfl rfl rfl ?_
        refine fs_getr (pc2 := 29) rfl rfl rfl (by assumption) rfl ?_
        refine fs_iload_n (pc2 := 30) rfl rfl rfl rfl ?_
        refine fs_aald (pc2 := 31) rfl rfl rfl (by assumption) hi1 hi2 ?_
        refine fs_astore_n (pc2 := 32) rfl rfl rfl (Nat.le_of_ble_eq_true rfl) ?_
        refine fs_iload_n (pc2 := 33) rfl rfl rfl rfl ?_
        rcases (by omega : w = 0 ∨ w = 1 ∨ w = 2 ∨ w = 3 ∨ w = 4 ∨ w = 5 ∨ w = 6) with rfl | rfl | rfl | rfl | rfl | rfl | rfl
        · refine fs_tsw (off := 39) (pc2 := 72) rfl rfl (by decide) (by decide) rfl rfl ?_
          refine fs_aload_n (pc2 := 73) rfl rfl rfl rfl ?_
          refine fs_getr (pc2 := 76) rfl rfl rfl (by assumption) rfl ?_
          refine fs_iconst (pc2 := 77) rfl rfl rfl ?_
          refine fs_iload_n (pc2 := 78) rfl rfl rfl rfl ?_
          refine fs_isub (pc2 := 79) rfl rfl rfl ?_
          refine fs_aald (pc2 := 80) rfl rfl rfl (by assumption) oi1 oi2 ?_
          refine fs_getr (pc2 := 83) rfl rfl rfl (by assumption) rfl ?_
          refine fs_callv (pc2 := 86) rfl rfl rfl rfl ⟨rfl, rfl⟩ (Nat.le_of_ble_eq_true rfl) (Nat.le_of_ble_eq_true rfl) (Nat.le_of_ble_eq_true rfl) (fs_rcv rfl (by assumption)) (e_Way_freeBuffers OW) (fun v9 sh9 V9 n9 hp9 => ?_)
          obtain ⟨ea9, eb9, ec9, hv9⟩ := hp9
          cases ea9
          obtain rfl := eb9.symm
          obtain rfl := ec9.symm
          cases hv9
          refine fs_iret rfl rfl True.intro ?_
          exact hP _ _ _ _ ⟨by rw [e4]; rfl, rfl, rfl, rfl⟩
        · refine fs_tsw (off := 54) (pc2 := 87) rfl rfl (by decide) (by decide) rfl rfl ?_
          refine fs_aload_n (pc2 := 88) rfl rfl rfl rfl ?_
          refine fs_getr (pc2 := 91) rfl rfl rfl (by assumption) rfl ?_
          refine fs_geti (pc2 := 94) rfl rfl rfl (by assumption) rfl ?_
          refine fs_iret rfl rfl True.intro ?_
          exact hP _ _ _ _ ⟨by rw [HW.2.2.2.2.1]; rfl, rfl, rfl, rfl⟩
        · refine fs_tsw (off := 62) (pc2 := 95) rfl rfl (by decide) (by decide) rfl rfl ?_
          refine fs_aload_n (pc2 := 96) rfl rfl rfl rfl ?_
          refine fs_getr (pc2 := 99) rfl rfl rfl (by assumption) rfl ?_
          refine fs_callv (pc2 := 102) rfl rfl rfl rfl ⟨rfl, rfl⟩ (Nat.le_of_ble_eq_true rfl) (Nat.le_of_ble_eq_true rfl) (Nat.le_of_ble_eq_true rfl) (fs_rcv rfl (by assumption)) (e_Al_size HQ.1) (fun v9 sh9 V9 n9 hp9 => ?_)
          obtain ⟨ea9, eb9, ec9, hv9⟩ := hp9
          cases ea9
          obtain rfl := eb9.symm
          obtain rfl := ec9.symm
          cases hv9
          refine fs_iret rfl rfl True.intro ?_
          exact hP _ _ _ _ ⟨by rw [HQ.2.2.2.2.1]; rfl, rfl, rfl, rfl⟩
        · refine fs_tsw (off := 70) (pc2 := 103) rfl rfl (by decide) (by decide) rfl rfl ?_
          refine fs_aload_n (pc2 := 104) rfl rfl rfl rfl ?_
          refine fs_geti (pc2 := 107) rfl rfl rfl (by assumption) rfl ?_
          refine fs_iret rfl rfl True.intro ?_
          exact hP _ _ _ _ ⟨by rw [HI 11 (by omega)]; rfl, rfl, rfl, rfl⟩
        · refine fs_tsw (off := 75) (pc2 := 108) rfl rfl (by decide) (by decide) rfl rfl ?_
          refine fs_aload_n (pc2 := 109) rfl rfl rfl rfl ?_
          refine fs_geti (pc2 := 112) rfl rfl rfl (by assumption) rfl ?_
          refine fs_iret rfl rfl True.intro ?_
          exact hP _ _ _ _ ⟨by rw [HI 12 (by omega)]; rfl, rfl, rfl, rfl⟩
        · refine fs_tsw (off := 80) (pc2 := 113) rfl rfl (by decide) (by decide) rfl rfl ?_
          refine fs_aload_n (pc2 := 114) rfl rfl rfl rfl ?_
          refine fs_geti (pc2 := 117) rfl rfl rfl (by assumption) rfl ?_
          refine fs_iret rfl rfl True.intro ?_
          exact hP _ _ _ _ ⟨by rw [HI 13 (by omega)]; rfl, rfl, rfl, rfl⟩
        · refine fs_tswd (pc2 := 118) rfl rfl (by decide) rfl ?_
          refine fs_aload_n (pc2 := 119) rfl rfl rfl rfl ?_
          refine fs_getr (pc2 := 122) rfl rfl rfl (by assumption) rfl ?_
          refine fs_geti (pc2 := 125) rfl rfl rfl (by assumption) rfl ?_
          refine fs_iret rfl rfl True.intro ?_
          exact hP _ _ _ _ ⟨by rw [HG.2.2.2.2.1]; rfl, rfl, rfl, rfl⟩
      · exact absurd (nI_le (a := w) (b := 6) (by omega) (by decide)) h14
end PUB2
