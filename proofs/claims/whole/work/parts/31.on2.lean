def ho_ans1 (H : Ho) (k : Nat) : Ho := if tl H 4 = 0 ∧ (64 ≤ tl H 0 ∧ tl H 0 ≤ 127) ∧ 23 ≤ tl H 1 ∧ 23 ≤ tl H 2 then hoC H k (ch_open (H.2.1 k) (tl H 0) (tl H 1) (tl H 2) (tl H 3)) else hoC H k (ch_close (H.2.1 k))
def ho_ans (H : Ho) (sid : Nat) : Ho := match ho_by H sid false with
  | some k => ho_ans1 H k
  | none => H
def ho_rej (H : Ho) (sid : Nat) : Ho := match ho_by H sid true with
  | some k => hoC H k (ch_close (H.2.1 k))
  | none => H
def ho_left (H : Ho) : Ho := if (64 ≤ tl H 1 ∧ tl H 1 < 68) ∧ (H.2.1 (tl H 1 - 64)).1 1 = 3 ∧ (H.2.1 (tl H 1 - 64)).1 6 = tl H 0 then hoC H (tl H 1 - 64) (ch_close (H.2.1 (tl H 1 - 64))) else H
def ho_lv (H : Ho) (sid : Nat) : Ho := if (64 ≤ tl H 0 ∧ tl H 0 < 68) ∧ ch_far (H.2.1 (tl H 0 - 64)) (tl H 1) = true then hoQ (hoC H (tl H 0 - 64) (ch_close (H.2.1 (tl H 0 - 64)))) (H.2.2.2.2.1 ++ [[7, sid, 4, 0] ++ two (tl H 0) ++ two (tl H 1)]) else hoQ (hoN H 13 (H.1 13 + 1)) (H.2.2.2.2.1 ++ [[1, sid, 6, 0] ++ two 2 ++ two (tl H 0) ++ two (tl H 1)])
def ho_cred1 (H : Ho) (k : Nat) : Ho := if tl H 1 = 0 ∨ 65535 < (H.2.1 k).1 9 + tl H 1 then ho_leave H k else hoC H k (va_up (H.2.1 k).1 9 ((H.2.1 k).1 9 + tl H 1), (H.2.1 k).2)
def ho_cred (H : Ho) : Ho := match first4 (fun j => (H.2.1 j).1 1 == 2 && (H.2.1 j).1 6 == tl H 0) with
  | some k => ho_cred1 H k
  | none => H
section ON2
variable {cy : Nat → ClassId} {z0 : Nat} {ext : Nat → Nat → List Value → ev_H → Nat → ev_P → Prop} {d : Nat} {sh : fl_S} {V : fl_V} {n K a0 hb e : Nat} {rs : List Nat} {H : Ho}
set_option maxRecDepth 100000 in
set_option maxHeartbeats 4000000 in
theorem e_onAnswer {sid : Nat} (hid : sid < 256) (hH : Host sh V n K a0 hb e rs H) : fl_M cy z0 ext (d + 5) m_X1_onAnswer [.ref (z0 + hb), .int (nI sid)] sh V n (fun v sh' V' n' => v = none ∧ sh' = sh ∧ n' = n ∧ Host sh V' n K a0 hb e rs (ho_ans H sid) ∧ ∀ a, (a < hb ∨ hb + 184 ≤ a) → V' a = V a) := by
  obtain ⟨⟨f1, ⟨gc, f2, f3⟩, f4, f5, f6⟩, HC, HS, ⟨wh, HW⟩, HQ, HB, HG, HI⟩ := id hH
  unfold isHo at f1
  obtain ⟨b1, b2⟩ := id HB.1
  obtain ⟨t1, t2⟩ := id HG.1
  have al0 := HQ.1
  unfold eAl at al0
  have lnG : H.2.2.2.2.2.2.length ≤ 128 := HG.2.2.1
  have lnB : H.2.2.2.2.2.1.length ≤ 128 := HB.2.2.1
  have eG : V (hb + 182) 1 = nI H.2.2.2.2.2.2.length := HG.2.2.2.2.1
  have eB : V (hb + 180) 1 = nI H.2.2.2.2.2.1.length := HB.2.2.2.2.1
  have t0b := tl_lt hH 0
  have t1b := tl_lt hH 1
  have t2b := tl_lt hH 2
  have t3b := tl_lt hH 3
  have t4b := tl_lt hH 4
  unfold ho_ans
  cases hcl : ho_by H sid false with
  | none =>
    refine fs_body rfl rfl (fun Ret hP => ?_)
    refine fs_aload_n (pc2 := 1) rfl rfl rfl rfl ?_
    refine fs_iload_n (pc2 := 2) rfl rfl rfl rfl ?_
    refine fs_iconst (pc2 := 3) rfl rfl rfl ?_
    refine fs_callv (pc2 := 6) rfl rfl rfl rfl ⟨rfl, rfl⟩ (Nat.le_of_ble_eq_true rfl) (Nat.le_of_ble_eq_true rfl) (Nat.le_of_ble_eq_true rfl) (fs_rcv rfl (by assumption)) (e_firstBy (lv := false) (by omega) hH) (fun v9 sh9 V9 n9 hp9 => ?_)
    obtain ⟨ea9, eb9, ec9, hv9⟩ := hp9
    cases ea9
    obtain rfl := eb9.symm
    obtain rfl := ec9.symm
    cases hv9
    rw [hcl]
    refine fs_astore_n0 (pc2 := 7) rfl rfl rfl (Nat.le_of_ble_eq_true rfl) ?_
    refine fs_aload_n0 (pc2 := 8) rfl rfl rfl rfl ?_
    refine fs_ifnonnull0 (pc2 := 11) rfl rfl rfl ?_
    refine fs_ret rfl rfl ?_
    exact hP _ _ _ _ ⟨rfl, rfl, rfl, hH, fun _ _ => rfl⟩
  | some k =>
    have hk4 := (first4_lt hcl).1
    dsimp only
    have n0 := (HC k hk4).2
    have C0 := (HC k hk4).1
    have s0 := C0.1
    unfold isChan at s0
    refine fs_body rfl rfl (fun Ret hP => ?_)
    refine fs_aload_n (pc2 := 1) rfl rfl rfl rfl ?_
    refine fs_iload_n (pc2 := 2) rfl rfl rfl rfl ?_
    refine fs_iconst (pc2 := 3) rfl rfl rfl ?_
    refine fs_callv (pc2 := 6) rfl rfl rfl rfl ⟨rfl, rfl⟩ (Nat.le_of_ble_eq_true rfl) (Nat.le_of_ble_eq_true rfl) (Nat.le_of_ble_eq_true rfl) (fs_rcv rfl (by assumption)) (e_firstBy (lv := false) (by omega) hH) (fun v9 sh9 V9 n9 hp9 => ?_)
    obtain ⟨ea9, eb9, ec9, hv9⟩ := hp9
    cases ea9
    obtain rfl := eb9.symm
    obtain rfl := ec9.symm
    cases hv9
    rw [hcl]
    rw [show fl_r z0 (Option.map (fun j => hb + 2 + 19 * j) (some k)) = .ref (z0 + (hb + 2 + 19 * k)) from rfl]
    refine fs_astore_n (pc2 := 7) rfl rfl rfl (Nat.le_of_ble_eq_true rfl) ?_
    refine fs_aload_n (pc2 := 8) rfl rfl rfl rfl ?_
    refine fs_ifnonnull rfl rfl ?_
    refine fs_aload_n (pc2 := 13) rfl rfl rfl rfl ?_
    refine fs_iconst (pc2 := 14) rfl rfl rfl ?_
    refine fs_callv (pc2 := 17) rfl rfl rfl rfl ⟨rfl, rfl⟩ (Nat.le_of_ble_eq_true rfl) (Nat.le_of_ble_eq_true rfl) (Nat.le_of_ble_eq_true rfl) (fs_rcv rfl (by assumption)) (e_tl hH (k := 4) (t := tl H 4) (by decide) rfl) (fun v9 sh9 V9 n9 hp9 => ?_)
    obtain ⟨ea9, eb9, ec9, hv9⟩ := hp9
    cases ea9
    obtain rfl := eb9.symm
    obtain rfl := ec9.symm
    cases hv9
    refine fs_if_ne (pc2 := 20) rfl rfl rfl (fun h17 => ?_) (fun h17 => ?_)
    · have k17 : tl H 4 ≠ 0 := c_ne h17 rfl rfl
      refine fs_iconst (pc2 := 56) rfl rfl rfl ?_
      refine fs_istore_n (pc2 := 57) rfl rfl rfl (Nat.le_of_ble_eq_true rfl) ?_
      refine fs_iload_n (pc2 := 58) rfl rfl rfl rfl ?_
      refine fs_if_eq (pc2 := 61) rfl rfl rfl (fun h58 => ?_) (fun h58 => ?_)
      · refine fs_aload_n (pc2 := 89) rfl rfl rfl rfl ?_
        refine fs_callv (pc2 := 92) rfl rfl rfl rfl ⟨rfl, rfl⟩ (Nat.le_of_ble_eq_true rfl) (Nat.le_of_ble_eq_true rfl) (Nat.le_of_ble_eq_true rfl) (fs_rcv rfl (by assumption)) (e_Chan_close C0) (fun v9 sh9 V9 n9 hp9 => ?_)
        obtain ⟨ea9, eb9, ec9, C1, hf1⟩ := hp9
        cases ea9
        obtain rfl := eb9.symm
        obtain rfl := ec9.symm
        refine fs_ret rfl rfl ?_
        refine hP _ _ _ _ ⟨rfl, rfl, rfl, ?_, fun a ha => hf1 a (by omega)⟩
        unfold ho_ans1
        rw [if_neg (by omega)]
        exact hH.putC hk4 C1 (by simp [ch_open, ch_close, va_up, n0]) hf1
      · exact absurd rfl h58
    · have k17 : tl H 4 = 0 := c_eq h17 rfl rfl
      refine fs_aload_n (pc2 := 21) rfl rfl rfl rfl ?_
      refine fs_iconst (pc2 := 22) rfl rfl rfl ?_
      refine fs_callv (pc2 := 25) rfl rfl rfl rfl ⟨rfl, rfl⟩ (Nat.le_of_ble_eq_true rfl) (Nat.le_of_ble_eq_true rfl) (Nat.le_of_ble_eq_true rfl) (fs_rcv rfl (by assumption)) (e_tl hH (k := 0) (t := tl H 0) (by decide) rfl) (fun v9 sh9 V9 n9 hp9 => ?_)
      obtain ⟨ea9, eb9, ec9, hv9⟩ := hp9
      cases ea9
      obtain rfl := eb9.symm
      obtain rfl := ec9.symm
      cases hv9
      refine fs_calls (pc2 := 28) rfl rfl rfl rfl rfl rfl ⟨rfl, rfl⟩ (Nat.le_of_ble_eq_true rfl) (Nat.le_of_ble_eq_true rfl) (Nat.le_of_ble_eq_true rfl) (e_isFar (u := nI (tl H 0))) (fun v9 sh9 V9 n9 hp9 => ?_)
      obtain ⟨ea9, eb9, ec9, hv9⟩ := hp9
      cases ea9
      obtain rfl := eb9.symm
      obtain rfl := ec9.symm
      cases hv9
      refine fs_if_eq (pc2 := 31) rfl rfl rfl (fun h28 => ?_) (fun h28 => ?_)
      · rw [isFarB_nI (by omega)] at h28
        have k28 : ¬ (64 ≤ tl H 0 ∧ tl H 0 ≤ 127) := of_decide_eq_false (bI_0.mp h28)
        refine fs_iconst (pc2 := 56) rfl rfl rfl ?_
        refine fs_istore_n (pc2 := 57) rfl rfl rfl (Nat.le_of_ble_eq_true rfl) ?_
        refine fs_iload_n (pc2 := 58) rfl rfl rfl rfl ?_
        refine fs_if_eq (pc2 := 61) rfl rfl rfl (fun h58 => ?_) (fun h58 => ?_)
        · refine fs_aload_n (pc2 := 89) rfl rfl rfl rfl ?_
          refine fs_callv (pc2 := 92) rfl rfl rfl rfl ⟨rfl, rfl⟩ (Nat.le_of_ble_eq_true rfl) (Nat.le_of_ble_eq_true rfl) (Nat.le_of_ble_eq_true rfl) (fs_rcv rfl (by assumption)) (e_Chan_close C0) (fun v9 sh9 V9 n9 hp9 => ?_)
          obtain ⟨ea9, eb9, ec9, C1, hf1⟩ := hp9
          cases ea9
          obtain rfl := eb9.symm
          obtain rfl := ec9.symm
          refine fs_ret rfl rfl ?_
          refine hP _ _ _ _ ⟨rfl, rfl, rfl, ?_, fun a ha => hf1 a (by omega)⟩
          unfold ho_ans1
          rw [if_neg (by omega)]
          exact hH.putC hk4 C1 (by simp [ch_open, ch_close, va_up, n0]) hf1
        · exact absurd rfl h58
      · rw [isFarB_nI (by omega)] at h28
        have k28 : 64 ≤ tl H 0 ∧ tl H 0 ≤ 127 := by
          by_cases q : 64 ≤ tl H 0 ∧ tl H 0 ≤ 127
          · exact q
          · rw [decide_eq_false q] at h28; exact absurd rfl h28
        refine fs_aload_n (pc2 := 32) rfl rfl rfl rfl ?_
        refine fs_iconst (pc2 := 33) rfl rfl rfl ?_
        refine fs_callv (pc2 := 36) rfl rfl rfl rfl ⟨rfl, rfl⟩ (Nat.le_of_ble_eq_true rfl) (Nat.le_of_ble_eq_true rfl) (Nat.le_of_ble_eq_true rfl) (fs_rcv rfl (by assumption)) (e_tl hH (k := 1) (t := tl H 1) (by decide) rfl) (fun v9 sh9 V9 n9 hp9 => ?_)
        obtain ⟨ea9, eb9, ec9, hv9⟩ := hp9
        cases ea9
        obtain rfl := eb9.symm
        obtain rfl := ec9.symm
        cases hv9
        refine fs_bipush (pc2 := 38) rfl rfl rfl ?_
        refine fs_icmp_lt (pc2 := 41) rfl rfl rfl (fun h38 => ?_) (fun h38 => ?_)
        · have k38 : tl H 1 < 23 := c_lt h38 rfl rfl
          refine fs_iconst (pc2 := 56) rfl rfl rfl ?_
          refine fs_istore_n (pc2 := 57) rfl rfl rfl (Nat.le_of_ble_eq_true rfl) ?_
          refine fs_iload_n (pc2 := 58) rfl rfl rfl rfl ?_
          refine fs_if_eq (pc2 := 61) rfl rfl rfl (fun h58 => ?_) (fun h58 => ?_)
          · refine fs_aload_n (pc2 := 89) rfl rfl rfl rfl ?_
            refine fs_callv (pc2 := 92) rfl rfl rfl rfl ⟨rfl, rfl⟩ (Nat.le_of_ble_eq_true rfl) (Nat.le_of_ble_eq_true rfl) (Nat.le_of_ble_eq_true rfl) (fs_rcv rfl (by assumption)) (e_Chan_close C0) (fun v9 sh9 V9 n9 hp9 => ?_)
            obtain ⟨ea9, eb9, ec9, C1, hf1⟩ := hp9
            cases ea9
            obtain rfl := eb9.symm
            obtain rfl := ec9.symm
            refine fs_ret rfl rfl ?_
            refine hP _ _ _ _ ⟨rfl, rfl, rfl, ?_, fun a ha => hf1 a (by omega)⟩
            unfold ho_ans1
            rw [if_neg (by omega)]
            exact hH.putC hk4 C1 (by simp [ch_open, ch_close, va_up, n0]) hf1
          · exact absurd rfl h58
        · have k38 : 23 ≤ tl H 1 := c_nlt h38 rfl rfl
          refine fs_aload_n (pc2 := 42) rfl rfl rfl rfl ?_
          refine fs_iconst (pc2 := 43) rfl rfl rfl ?_
          refine fs_callv (pc2 := 46) rfl rfl rfl rfl ⟨rfl, rfl⟩ (Nat.le_of_ble_eq_true rfl) (Nat.le_of_ble_eq_true rfl) (Nat.le_of_ble_eq_true rfl) (fs_rcv rfl (by assumption)) (e_tl hH (k := 2) (t := tl H 2) (by decide) rfl) (fun v9 sh9 V9 n9 hp9 => ?_)
          obtain ⟨ea9, eb9, ec9, hv9⟩ := hp9
          cases ea9
          obtain rfl := eb9.symm
          obtain rfl := ec9.symm
          cases hv9
          refine fs_bipush (pc2 := 48) rfl rfl rfl ?_
          refine fs_icmp_lt (pc2 := 51) rfl rfl rfl (fun h48 => ?_) (fun h48 => ?_)
          · have k48 : tl H 2 < 23 := c_lt h48 rfl rfl
            refine fs_iconst (pc2 := 56) rfl rfl rfl ?_
            refine fs_istore_n (pc2 := 57) rfl rfl rfl (Nat.le_of_ble_eq_true rfl) ?_
            refine fs_iload_n (pc2 := 58) rfl rfl rfl rfl ?_
            refine fs_if_eq (pc2 := 61) rfl rfl rfl (fun h58 => ?_) (fun h58 => ?_)
            · refine fs_aload_n (pc2 := 89) rfl rfl rfl rfl ?_
              refine fs_callv (pc2 := 92) rfl rfl rfl rfl ⟨rfl, rfl⟩ (Nat.le_of_ble_eq_true rfl) (Nat.le_of_ble_eq_true rfl) (Nat.le_of_ble_eq_true rfl) (fs_rcv rfl (by assumption)) (e_Chan_close C0) (fun v9 sh9 V9 n9 hp9 => ?_)
              obtain ⟨ea9, eb9, ec9, C1, hf1⟩ := hp9
              cases ea9
              obtain rfl := eb9.symm
              obtain rfl := ec9.symm
              refine fs_ret rfl rfl ?_
              refine hP _ _ _ _ ⟨rfl, rfl, rfl, ?_, fun a ha => hf1 a (by omega)⟩
              unfold ho_ans1
              rw [if_neg (by omega)]
              exact hH.putC hk4 C1 (by simp [ch_open, ch_close, va_up, n0]) hf1
            · exact absurd rfl h58
          · have k48 : 23 ≤ tl H 2 := c_nlt h48 rfl rfl
            refine fs_iconst (pc2 := 52) rfl rfl rfl ?_
            refine fs_goto rfl rfl ?_
            refine fs_istore_n (pc2 := 57) rfl rfl rfl (Nat.le_of_ble_eq_true rfl) ?_
            refine fs_iload_n (pc2 := 58) rfl rfl rfl rfl ?_
            refine fs_if_eq (pc2 := 61) rfl rfl rfl (fun h58 => ?_) (fun h58 => ?_)
            · exact absurd h58 (by decide)
            · refine fs_aload_n (pc2 := 62) rfl rfl rfl rfl ?_
              refine fs_aload_n (pc2 := 63) rfl rfl rfl rfl ?_
              refine fs_iconst (pc2 := 64) rfl rfl rfl ?_
              refine fs_callv (pc2 := 67) rfl rfl rfl rfl ⟨rfl, rfl⟩ (Nat.le_of_ble_eq_true rfl) (Nat.le_of_ble_eq_true rfl) (Nat.le_of_ble_eq_true rfl) (fs_rcv rfl (by assumption)) (e_tl hH (k := 0) (t := tl H 0) (by decide) rfl) (fun v9 sh9 V9 n9 hp9 => ?_)
              obtain ⟨ea9, eb9, ec9, hv9⟩ := hp9
              cases ea9
              obtain rfl := eb9.symm
              obtain rfl := ec9.symm
              cases hv9
              refine fs_aload_n (pc2 := 68) rfl rfl rfl rfl ?_
              refine fs_iconst (pc2 := 69) rfl rfl rfl ?_
              refine fs_callv (pc2 := 72) rfl rfl rfl rfl ⟨rfl, rfl⟩ (Nat.le_of_ble_eq_true rfl) (Nat.le_of_ble_eq_true rfl) (Nat.le_of_ble_eq_true rfl) (fs_rcv rfl (by assumption)) (e_tl hH (k := 1) (t := tl H 1) (by decide) rfl) (fun v9 sh9 V9 n9 hp9 => ?_)
              obtain ⟨ea9, eb9, ec9, hv9⟩ := hp9
              cases ea9
              obtain rfl := eb9.symm
              obtain rfl := ec9.symm
              cases hv9
              refine fs_aload_n (pc2 := 73) rfl rfl rfl rfl ?_
              refine fs_iconst (pc2 := 74) rfl rfl rfl ?_
              refine fs_callv (pc2 := 77) rfl rfl rfl rfl ⟨rfl, rfl⟩ (Nat.le_of_ble_eq_true rfl) (Nat.le_of_ble_eq_true rfl) (Nat.le_of_ble_eq_true rfl) (fs_rcv rfl (by assumption)) (e_tl hH (k := 2) (t := tl H 2) (by decide) rfl) (fun v9 sh9 V9 n9 hp9 => ?_)
              obtain ⟨ea9, eb9, ec9, hv9⟩ := hp9
              cases ea9
              obtain rfl := eb9.symm
              obtain rfl := ec9.symm
              cases hv9
              refine fs_aload_n (pc2 := 78) rfl rfl rfl rfl ?_
              refine fs_iconst (pc2 := 79) rfl rfl rfl ?_
              refine fs_callv (pc2 := 82) rfl rfl rfl rfl ⟨rfl, rfl⟩ (Nat.le_of_ble_eq_true rfl) (Nat.le_of_ble_eq_true rfl) (Nat.le_of_ble_eq_true rfl) (fs_rcv rfl (by assumption)) (e_tl hH (k := 3) (t := tl H 3) (by decide) rfl) (fun v9 sh9 V9 n9 hp9 => ?_)
              obtain ⟨ea9, eb9, ec9, hv9⟩ := hp9
              cases ea9
              obtain rfl := eb9.symm
              obtain rfl := ec9.symm
              cases hv9
              refine fs_callv (pc2 := 85) rfl rfl rfl rfl ⟨rfl, rfl⟩ (Nat.le_of_ble_eq_true rfl) (Nat.le_of_ble_eq_true rfl) (Nat.le_of_ble_eq_true rfl) (fs_rcv rfl (by assumption)) (e_Chan_open t0b t1b t2b t3b C0) (fun v9 sh9 V9 n9 hp9 => ?_)
              obtain ⟨ea9, eb9, ec9, C1, hf1⟩ := hp9
              cases ea9
              obtain rfl := eb9.symm
              obtain rfl := ec9.symm
              refine fs_goto rfl rfl ?_
              refine fs_ret rfl rfl ?_
              refine hP _ _ _ _ ⟨rfl, rfl, rfl, ?_, fun a ha => hf1 a (by omega)⟩
              unfold ho_ans1
              rw [if_pos ⟨k17, k28, k38, k48⟩]
              exact hH.putC hk4 C1 (by simp [ch_open, ch_close, va_up, n0]) hf1
set_option maxRecDepth 100000 in
set_option maxHeartbeats 4000000 in
theorem e_onReject {sid : Nat} (hid : sid < 256) (hH : Host sh V n K a0 hb e rs H) : fl_M cy z0 ext (d + 5) m_X1_onReject [.ref (z0 + hb), .int (nI sid)] sh V n (fun v sh' V' n' => v = none ∧ sh' = sh ∧ n' = n ∧ Host sh V' n K a0 hb e rs (ho_rej H sid) ∧ ∀ a, (a < hb ∨ hb + 184 ≤ a) → V' a = V a) := by
  obtain ⟨⟨f1, ⟨gc, f2, f3⟩, f4, f5, f6⟩, HC, HS, ⟨wh, HW⟩, HQ, HB, HG, HI⟩ := id hH
  unfold isHo at f1
  obtain ⟨b1, b2⟩ := id HB.1
  obtain ⟨t1, t2⟩ := id HG.1
  have al0 := HQ.1
  unfold eAl at al0
  have lnG : H.2.2.2.2.2.2.length ≤ 128 := HG.2.2.1
  have lnB : H.2.2.2.2.2.1.length ≤ 128 := HB.2.2.1
  have eG : V (hb + 182) 1 = nI H.2.2.2.2.2.2.length := HG.2.2.2.2.1
  have eB : V (hb + 180) 1 = nI H.2.2.2.2.2.1.length := HB.2.2.2.2.1
  unfold ho_rej
  cases hcl : ho_by H sid true with
  | none =>
    refine fs_body rfl rfl (fun Ret hP => ?_)
    refine fs_aload_n (pc2 := 1) rfl rfl rfl rfl ?_
    refine fs_iload_n (pc2 := 2) rfl rfl rfl rfl ?_
    refine fs_iconst (pc2 := 3) rfl rfl rfl ?_
    refine fs_callv (pc2 := 6) rfl rfl rfl rfl ⟨rfl, rfl⟩ (Nat.le_of_ble_eq_true rfl) (Nat.le_of_ble_eq_true rfl) (Nat.le_of_ble_eq_true rfl) (fs_rcv rfl (by assumption)) (e_firstBy (lv := true) (by omega) hH) (fun v9 sh9 V9 n9 hp9 => ?_)
    obtain ⟨ea9, eb9, ec9, hv9⟩ := hp9
    cases ea9
    obtain rfl := eb9.symm
    obtain rfl := ec9.symm
    cases hv9
    rw [hcl]
    refine fs_astore_n0 (pc2 := 7) rfl rfl rfl (Nat.le_of_ble_eq_true rfl) ?_
    refine fs_aload_n0 (pc2 := 8) rfl rfl rfl rfl ?_
    refine fs_ifnull0 rfl rfl ?_
    refine fs_ret rfl rfl ?_
    exact hP _ _ _ _ ⟨rfl, rfl, rfl, hH, fun _ _ => rfl⟩
  | some k =>
    have hk4 := (first4_lt hcl).1
    dsimp only
    have n0 := (HC k hk4).2
    have C0 := (HC k hk4).1
    have s0 := C0.1
    unfold isChan at s0
    refine fs_body rfl rfl (fun Ret hP => ?_)
    refine fs_aload_n (pc2 := 1) rfl rfl rfl rfl ?_
    refine fs_iload_n (pc2 := 2) rfl rfl rfl rfl ?_
    refine fs_iconst (pc2 := 3) rfl rfl rfl ?_
    refine fs_callv (pc2 := 6) rfl rfl rfl rfl ⟨rfl, rfl⟩ (Nat.le_of_ble_eq_true rfl) (Nat.le_of_ble_eq_true rfl) (Nat.le_of_ble_eq_true rfl) (fs_rcv rfl (by assumption)) (e_firstBy (lv := true) (by omega) hH) (fun v9 sh9 V9 n9 hp9 => ?_)
    obtain ⟨ea9, eb9, ec9, hv9⟩ := hp9
    cases ea9
    obtain rfl := eb9.symm
    obtain rfl := ec9.symm
    cases hv9
    rw [hcl]
    rw [show fl_r z0 (Option.map (fun j => hb + 2 + 19 * j) (some k)) = .ref (z0 + (hb + 2 + 19 * k)) from rfl]
    refine fs_astore_n (pc2 := 7) rfl rfl rfl (Nat.le_of_ble_eq_true rfl) ?_
    refine fs_aload_n (pc2 := 8) rfl rfl rfl rfl ?_
    refine fs_ifnull (pc2 := 11) rfl rfl rfl ?_
    refine fs_aload_n (pc2 := 12) rfl rfl rfl rfl ?_
    refine fs_callv (pc2 := 15) rfl rfl rfl rfl ⟨rfl, rfl⟩ (Nat.le_of_ble_eq_true rfl) (Nat.le_of_ble_eq_true rfl) (Nat.le_of_ble_eq_true rfl) (fs_rcv rfl (by assumption)) (e_Chan_close C0) (fun v9 sh9 V9 n9 hp9 => ?_)
    obtain ⟨ea9, eb9, ec9, C1, hf1⟩ := hp9
    cases ea9
    obtain rfl := eb9.symm
    obtain rfl := ec9.symm
    refine fs_ret rfl rfl ?_
    exact hP _ _ _ _ ⟨rfl, rfl, rfl, hH.putC hk4 C1 (by simp [ch_open, ch_close, va_up, n0]) hf1, fun a ha => hf1 a (by omega)⟩
set_option maxRecDepth 100000 in
set_option maxHeartbeats 4000000 in
theorem e_onLeft (hH : Host sh V n K a0 hb e rs H) : fl_M cy z0 ext (d + 5) m_X1_onLeft [.ref (z0 + hb)] sh V n (fun v sh' V' n' => v = none ∧ sh' = sh ∧ n' = n ∧ Host sh V' n K a0 hb e rs (ho_left H) ∧ ∀ a, (a < hb ∨ hb + 184 ≤ a) → V' a = V a) := by
  obtain ⟨⟨f1, ⟨gc, f2, f3⟩, f4, f5, f6⟩, HC, HS, ⟨wh, HW⟩, HQ, HB, HG, HI⟩ := id hH
  unfold isHo at f1
  obtain ⟨b1, b2⟩ := id HB.1
  obtain ⟨t1, t2⟩ := id HG.1
  have al0 := HQ.1
  unfold eAl at al0
  have lnG : H.2.2.2.2.2.2.length ≤ 128 := HG.2.2.1
  have lnB : H.2.2.2.2.2.1.length ≤ 128 := HB.2.2.1
  have eG : V (hb + 182) 1 = nI H.2.2.2.2.2.2.length := HG.2.2.2.2.1
  have eB : V (hb + 180) 1 = nI H.2.2.2.2.2.1.length := HB.2.2.2.2.1
  have t0b := tl_lt hH 0
  have t1b := tl_lt hH 1
  have t2b := tl_lt hH 2
  have t3b := tl_lt hH 3
  have t4b := tl_lt hH 4
  refine fs_body rfl rfl (fun Ret hP => ?_)
  refine fs_aload_n (pc2 := 1) rfl rfl rfl rfl ?_
  refine fs_iconst (pc2 := 2) rfl rfl rfl ?_
  refine fs_callv (pc2 := 5) rfl rfl rfl rfl ⟨rfl, rfl⟩ (Nat.le_of_ble_eq_true rfl) (Nat.le_of_ble_eq_true rfl) (Nat.le_of_ble_eq_true rfl) (fs_rcv rfl (by assumption)) (e_tl hH (k := 1) (t := tl H 1) (by decide) rfl) (fun v9 sh9 V9 n9 hp9 => ?_)
  obtain ⟨ea9, eb9, ec9, hv9⟩ := hp9
  cases ea9
  obtain rfl := eb9.symm
  obtain rfl := ec9.symm
  cases hv9
  refine fs_calls (pc2 := 8) rfl rfl rfl rfl rfl rfl ⟨rfl, rfl⟩ (Nat.le_of_ble_eq_true rfl) (Nat.le_of_ble_eq_true rfl) (Nat.le_of_ble_eq_true rfl) (e_isChannel (u := nI (tl H 1))) (fun v9 sh9 V9 n9 hp9 => ?_)
  obtain ⟨ea9, eb9, ec9, hv9⟩ := hp9
  cases ea9
  obtain rfl := eb9.symm
  obtain rfl := ec9.symm
  cases hv9
  refine fs_if_eq (pc2 := 11) rfl rfl rfl (fun h8 => ?_) (fun h8 => ?_)
  · rw [isChB_nI (by omega)] at h8
    have k8 : ¬ (64 ≤ tl H 1 ∧ tl H 1 < 68) := of_decide_eq_false (bI_0.mp h8)
    refine fs_ret rfl rfl ?_
    refine hP _ _ _ _ ⟨rfl, rfl, rfl, ?_, fun _ _ => rfl⟩
    unfold ho_left
    rw [if_neg (by omega)]
    exact hH
  · rw [isChB_nI (by omega)] at h8
    have k8 : 64 ≤ tl H 1 ∧ tl H 1 < 68 := by
      by_cases q : 64 ≤ tl H 1 ∧ tl H 1 < 68
      · exact q
      · rw [decide_eq_false q] at h8; exact absurd rfl h8
    obtain ⟨k, ek⟩ : ∃ k, k = tl H 1 - 64 := ⟨_, rfl⟩
    have hk4 : k < 4 := by omega
    have es : nI (tl H 1) - 64 = nI k := by rw [ek]; exact pk_sub (b := 64) (by omega)
    have i1 : vp_in (nI (tl H 1) - 64) 4 := by rw [es]; exact vp_in_nI hk4 (by decide)
    have i2 : gc (nI (tl H 1) - 64).toNatClampNeg = some (hb + 2 + 19 * k) := by rw [es, nI_clamp (by omega)]; exact f3 k hk4
    have n0 := (HC k hk4).2
    have C0 := (HC k hk4).1
    have s0 := C0.1
    unfold isChan at s0
    obtain ⟨e1, l1⟩ := C0.i 1 (by omega)
    obtain ⟨e6, l6⟩ := C0.i 6 (by omega)
    refine fs_aload_n (pc2 := 12) rfl rfl rfl rfl ?_
    refine fs_getr (pc2 := 15) rfl rfl rfl (by assumption) rfl ?_
    refine fs_aload_n (pc2 := 16) rfl rfl rfl rfl ?_
    refine fs_iconst (pc2 := 17) rfl rfl rfl ?_
    refine fs_callv (pc2 := 20) rfl rfl rfl rfl ⟨rfl, rfl⟩ (Nat.le_of_ble_eq_true rfl) (Nat.le_of_ble_eq_true rfl) (Nat.le_of_ble_eq_true rfl) (fs_rcv rfl (by assumption)) (e_tl hH (k := 1) (t := tl H 1) (by decide) rfl) (fun v9 sh9 V9 n9 hp9 => ?_)
    obtain ⟨ea9, eb9, ec9, hv9⟩ := hp9
    cases ea9
    obtain rfl := eb9.symm
    obtain rfl := ec9.symm
    cases hv9
    refine fs_bipush (pc2 := 22) rfl rfl rfl ?_
    refine fs_isub (pc2 := 23) rfl rfl rfl ?_
    refine fs_aald (pc2 := 24) rfl rfl rfl (by assumption) i1 i2 ?_
    refine fs_astore_n (pc2 := 25) rfl rfl rfl (Nat.le_of_ble_eq_true rfl) ?_
    refine fs_aload_n (pc2 := 26) rfl rfl rfl rfl ?_
    refine fs_geti (pc2 := 29) rfl rfl rfl (by assumption) rfl ?_
    refine fs_iconst (pc2 := 30) rfl rfl rfl ?_
    refine fs_icmp_ne (pc2 := 33) rfl rfl rfl (fun h30 => ?_) (fun h30 => ?_)
    · have k30 : (H.2.1 k).1 1 ≠ 3 := c_ne h30 e1 rfl
      refine fs_ret rfl rfl ?_
      refine hP _ _ _ _ ⟨rfl, rfl, rfl, ?_, fun _ _ => rfl⟩
      unfold ho_left
      rw [← ek, if_neg (by intro q; obtain ⟨_, q2, q3⟩ := q; first | exact k30 q2 | exact k42 q3)]
      exact hH
    · have k30 : (H.2.1 k).1 1 = 3 := c_eq h30 e1 rfl
      refine fs_aload_n (pc2 := 34) rfl rfl rfl rfl ?_
      refine fs_geti (pc2 := 37) rfl rfl rfl (by assumption) rfl ?_
      refine fs_aload_n (pc2 := 38) rfl rfl rfl rfl ?_
      refine fs_iconst (pc2 := 39) rfl rfl rfl ?_
      refine fs_callv (pc2 := 42) rfl rfl rfl rfl ⟨rfl, rfl⟩ (Nat.le_of_ble_eq_true rfl) (Nat.le_of_ble_eq_true rfl) (Nat.le_of_ble_eq_true rfl) (fs_rcv rfl (by assumption)) (e_tl hH (k := 0) (t := tl H 0) (by decide) rfl) (fun v9 sh9 V9 n9 hp9 => ?_)
      obtain ⟨ea9, eb9, ec9, hv9⟩ := hp9
      cases ea9
      obtain rfl := eb9.symm
      obtain rfl := ec9.symm
      cases hv9
      refine fs_icmp_ne (pc2 := 45) rfl rfl rfl (fun h42 => ?_) (fun h42 => ?_)
      · have k42 : (H.2.1 k).1 6 ≠ tl H 0 := c_ne h42 e6 rfl
        refine fs_ret rfl rfl ?_
        refine hP _ _ _ _ ⟨rfl, rfl, rfl, ?_, fun _ _ => rfl⟩
        unfold ho_left
        rw [← ek, if_neg (by intro q; obtain ⟨_, q2, q3⟩ := q; first | exact k30 q2 | exact k42 q3)]
        exact hH
      · have k42 : (H.2.1 k).1 6 = tl H 0 := c_eq h42 e6 rfl
        refine fs_aload_n (pc2 := 46) rfl rfl rfl rfl ?_
        refine fs_callv (pc2 := 49) rfl rfl rfl rfl ⟨rfl, rfl⟩ (Nat.le_of_ble_eq_true rfl) (Nat.le_of_ble_eq_true rfl) (Nat.le_of_ble_eq_true rfl) (fs_rcv rfl (by assumption)) (e_Chan_close C0) (fun v9 sh9 V9 n9 hp9 => ?_)
        obtain ⟨ea9, eb9, ec9, C1, hf1⟩ := hp9
        cases ea9
        obtain rfl := eb9.symm
        obtain rfl := ec9.symm
        refine fs_ret rfl rfl ?_
        refine hP _ _ _ _ ⟨rfl, rfl, rfl, ?_, fun a ha => hf1 a (by omega)⟩
        unfold ho_left
        rw [← ek, if_pos ⟨k8, k30, k42⟩]
        exact hH.putC hk4 C1 (by simp [ch_open, ch_close, va_up, n0]) hf1
set_option maxRecDepth 100000 in
set_option maxHeartbeats 4000000 in
theorem e_onLeave (hA : AlOK cy z0 a0 ext) (hlen : H.2.2.2.2.1.length < 512) {sid : Nat} (hid : sid < 256) (hH : Host sh V n K a0 hb e rs H) : fl_M cy z0 ext (d + 10) m_X1_onLeave [.ref (z0 + hb), .int (nI sid)] sh V n (fun v sh' V' n' => v = none ∧ ∃ e' rs', Host sh' V' n' K a0 hb e' rs' (ho_lv H sid) ∧ Fr hb a0 sh V n e sh' V' n' e') := by
  obtain ⟨⟨f1, ⟨gc, f2, f3⟩, f4, f5, f6⟩, HC, HS, ⟨wh, HW⟩, HQ, HB, HG, HI⟩ := id hH
  unfold isHo at f1
  obtain ⟨b1, b2⟩ := id HB.1
  obtain ⟨t1, t2⟩ := id HG.1
  have al0 := HQ.1
  unfold eAl at al0
  have lnG : H.2.2.2.2.2.2.length ≤ 128 := HG.2.2.1
  have lnB : H.2.2.2.2.2.1.length ≤ 128 := HB.2.2.1
  have eG : V (hb + 182) 1 = nI H.2.2.2.2.2.2.length := HG.2.2.2.2.1
  have eB : V (hb + 180) 1 = nI H.2.2.2.2.2.1.length := HB.2.2.2.2.1
  have t0b := tl_lt hH 0
  have t1b := tl_lt hH 1
  have t2b := tl_lt hH 2
  have t3b := tl_lt hH 3
  have t4b := tl_lt hH 4
  have hlt := hH.rows
  refine fs_body rfl rfl (fun Ret hP => ?_)
  have e13 : V hb 13 + 1 = nI (H.1 13 + 1) := by rw [HI 13 (by omega), nI_1]
  refine fs_aload_n (pc2 := 1) rfl rfl rfl rfl ?_
  refine fs_iconst (pc2 := 2) rfl rfl rfl ?_
  refine fs_callv (pc2 := 5) rfl rfl rfl rfl ⟨rfl, rfl⟩ (Nat.le_of_ble_eq_true rfl) (Nat.le_of_ble_eq_true rfl) (Nat.le_of_ble_eq_true rfl) (fs_rcv rfl (by assumption)) (e_tl hH (k := 0) (t := tl H 0) (by decide) rfl) (fun v9 sh9 V9 n9 hp9 => ?_)
  obtain ⟨ea9, eb9, ec9, hv9⟩ := hp9
  cases ea9
  obtain rfl := eb9.symm
  obtain rfl := ec9.symm
  cases hv9
  refine fs_calls (pc2 := 8) rfl rfl rfl rfl rfl rfl ⟨rfl, rfl⟩ (Nat.le_of_ble_eq_true rfl) (Nat.le_of_ble_eq_true rfl) (Nat.le_of_ble_eq_true rfl) (e_isChannel (u := nI (tl H 0))) (fun v9 sh9 V9 n9 hp9 => ?_)
  obtain ⟨ea9, eb9, ec9, hv9⟩ := hp9
  cases ea9
  obtain rfl := eb9.symm
  obtain rfl := ec9.symm
  cases hv9
  refine fs_if_eq (pc2 := 11) rfl rfl rfl (fun h8 => ?_) (fun h8 => ?_)
  · rw [isChB_nI (by omega)] at h8
    have k8 : ¬ (64 ≤ tl H 0 ∧ tl H 0 < 68) := of_decide_eq_false (bI_0.mp h8)
    have elv : ho_lv H sid = hoQ (hoN H 13 (H.1 13 + 1)) (H.2.2.2.2.1 ++ [[1, sid, 6, 0] ++ two 2 ++ two (tl H 0) ++ two (tl H 1)]) := by unfold ho_lv; rw [if_neg (by omega)]
    refine fs_aload_n (pc2 := 64) rfl rfl rfl rfl ?_
    first | refine fs_dup_r (pc2 := 65) rfl rfl rfl ?_ | refine fs_dup_i (pc2 := 65) rfl rfl rfl ?_
    refine fs_geti (pc2 := 68) rfl rfl rfl (by assumption) rfl ?_
    refine fs_iconst (pc2 := 69) rfl rfl rfl ?_
    refine fs_iadd (pc2 := 70) rfl rfl rfl ?_
    refine fs_puti (pc2 := 73) rfl rfl rfl (by assumption) rfl True.intro ?_
    refine fs_aload_n (pc2 := 74) rfl rfl rfl rfl ?_
    refine fs_iconst (pc2 := 75) rfl rfl rfl ?_
    refine fs_iload_n (pc2 := 76) rfl rfl rfl rfl ?_
    refine fs_iconst (pc2 := 77) rfl rfl rfl ?_
    refine fs_callv (pc2 := 80) rfl rfl rfl rfl ⟨rfl, rfl⟩ (Nat.le_of_ble_eq_true rfl) (Nat.le_of_ble_eq_true rfl) (Nat.le_of_ble_eq_true rfl) (fs_rcv rfl (by assumption)) (by rw [e13]; exact e_addSignal (co := 1) (k := 3) hA (by decide) hid (by decide) (by exact hlen) (hH.putN 13 (H.1 13 + 1))) (fun v9 sh9 V9 n9 hp9 => ?_)
    obtain ⟨ea9, e1x, k0, frs⟩ := hp9
    cases ea9
    obtain ⟨z0a, z0b⟩ := id (k0.lastRow rfl).1.1
    have fx0 := k0.1.1
    unfold isHo at fx0
    have frs := Fr.pre (fun a ha => by rw [up2_o (by omega)]) frs
    refine fs_astore_n (pc2 := 81) rfl rfl rfl (Nat.le_of_ble_eq_true rfl) ?_
    refine fs_aload_n (pc2 := 82) rfl rfl rfl rfl ?_
    refine fs_iconst (pc2 := 83) rfl rfl rfl ?_
    refine fs_callv (pc2 := 86) rfl rfl rfl rfl ⟨rfl, rfl⟩ (Nat.le_of_ble_eq_true rfl) (Nat.le_of_ble_eq_true rfl) (Nat.le_of_ble_eq_true rfl) (fs_rcv rfl (by assumption)) (by exact e_Row_addNumber (by decide : 2 < 65536) (k0.lastRow rfl).1 (by simp [two])) (fun v9 sh9 V9 n9 hp9 => ?_)
    obtain ⟨ea9, eb9, ec9, rr0, ff0⟩ := hp9
    cases ea9
    obtain rfl := eb9.symm
    obtain rfl := ec9.symm
    have k1 := k0.last rfl hlt rr0 ff0
    have fr1 := frs.row (Nat.le_refl _) ff0
    obtain ⟨z1, zz1⟩ := id (k1.lastRow rfl).1.1
    have fx1 := k1.1.1
    unfold isHo at fx1
    refine fs_aload_n (pc2 := 87) rfl rfl rfl rfl ?_
    refine fs_aload_n (pc2 := 88) rfl rfl rfl rfl ?_
    refine fs_iconst (pc2 := 89) rfl rfl rfl ?_
    refine fs_callv (pc2 := 92) rfl rfl rfl rfl ⟨rfl, rfl⟩ (Nat.le_of_ble_eq_true rfl) (Nat.le_of_ble_eq_true rfl) (Nat.le_of_ble_eq_true rfl) (fs_rcv rfl (by assumption)) (e_tl k1 (k := 0) (t := tl H 0) (by decide) rfl) (fun v9 sh9 V9 n9 hp9 => ?_)
    obtain ⟨ea9, eb9, ec9, hv9⟩ := hp9
    cases ea9
    obtain rfl := eb9.symm
    obtain rfl := ec9.symm
    cases hv9
    refine fs_callv (pc2 := 95) rfl rfl rfl rfl ⟨rfl, rfl⟩ (Nat.le_of_ble_eq_true rfl) (Nat.le_of_ble_eq_true rfl) (Nat.le_of_ble_eq_true rfl) (fs_rcv rfl (by assumption)) (by exact e_Row_addNumber t0b (k1.lastRow rfl).1 (by simp [two])) (fun v9 sh9 V9 n9 hp9 => ?_)
    obtain ⟨ea9, eb9, ec9, rr1, ff1⟩ := hp9
    cases ea9
    obtain rfl := eb9.symm
    obtain rfl := ec9.symm
    have k2 := k1.last rfl hlt rr1 ff1
    have fr2 := fr1.row (Nat.le_refl _) ff1
    obtain ⟨z2, zz2⟩ := id (k2.lastRow rfl).1.1
    have fx2 := k2.1.1
    unfold isHo at fx2
    refine fs_aload_n (pc2 := 96) rfl rfl rfl rfl ?_
    refine fs_aload_n (pc2 := 97) rfl rfl rfl rfl ?_
    refine fs_iconst (pc2 := 98) rfl rfl rfl ?_
    refine fs_callv (pc2 := 101) rfl rfl rfl rfl ⟨rfl, rfl⟩ (Nat.le_of_ble_eq_true rfl) (Nat.le_of_ble_eq_true rfl) (Nat.le_of_ble_eq_true rfl) (fs_rcv rfl (by assumption)) (e_tl k2 (k := 1) (t := tl H 1) (by decide) rfl) (fun v9 sh9 V9 n9 hp9 => ?_)
    obtain ⟨ea9, eb9, ec9, hv9⟩ := hp9
    cases ea9
    obtain rfl := eb9.symm
    obtain rfl := ec9.symm
    cases hv9
    refine fs_callv (pc2 := 104) rfl rfl rfl rfl ⟨rfl, rfl⟩ (Nat.le_of_ble_eq_true rfl) (Nat.le_of_ble_eq_true rfl) (Nat.le_of_ble_eq_true rfl) (fs_rcv rfl (by assumption)) (by exact e_Row_addNumber t1b (k2.lastRow rfl).1 (by simp [two])) (fun v9 sh9 V9 n9 hp9 => ?_)
    obtain ⟨ea9, eb9, ec9, rr2, ff2⟩ := hp9
    cases ea9
    obtain rfl := eb9.symm
    obtain rfl := ec9.symm
    have k3 := k2.last rfl hlt rr2 ff2
    have fr3 := fr2.row (Nat.le_refl _) ff2
    obtain ⟨z3, zz3⟩ := id (k3.lastRow rfl).1.1
    have fx3 := k3.1.1
    unfold isHo at fx3
    refine fs_ret rfl rfl ?_
    rw [elv] at hP
    exact hP _ _ _ _ ⟨rfl, e1x, _, k3, fr3⟩
  · rw [isChB_nI (by omega)] at h8
    have k8 : 64 ≤ tl H 0 ∧ tl H 0 < 68 := by
      by_cases q : 64 ≤ tl H 0 ∧ tl H 0 < 68
      · exact q
      · rw [decide_eq_false q] at h8; exact absurd rfl h8
    obtain ⟨k, ek⟩ : ∃ k, k = tl H 0 - 64 := ⟨_, rfl⟩
    have hk4 : k < 4 := by omega
    have es : nI (tl H 0) - 64 = nI k := by rw [ek]; exact pk_sub (b := 64) (by omega)
    have i1 : vp_in (nI (tl H 0) - 64) 4 := by rw [es]; exact vp_in_nI hk4 (by decide)
    have i2 : gc (nI (tl H 0) - 64).toNatClampNeg = some (hb + 2 + 19 * k) := by rw [es, nI_clamp (by omega)]; exact f3 k hk4
    have n0 := (HC k hk4).2
    have C0 := (HC k hk4).1
    have s0 := C0.1
    unfold isChan at s0
    obtain ⟨e1, l1⟩ := C0.i 1 (by omega)
    obtain ⟨e6, l6⟩ := C0.i 6 (by omega)
    refine fs_aload_n (pc2 := 12) rfl rfl rfl rfl ?_
    refine fs_getr (pc2 := 15) rfl rfl rfl (by assumption) rfl ?_
    refine fs_aload_n (pc2 := 16) rfl rfl rfl rfl ?_
    refine fs_iconst (pc2 := 17) rfl rfl rfl ?_
    refine fs_callv (pc2 := 20) rfl rfl rfl rfl ⟨rfl, rfl⟩ (Nat.le_of_ble_eq_true rfl) (Nat.le_of_ble_eq_true rfl) (Nat.le_of_ble_eq_true rfl) (fs_rcv rfl (by assumption)) (e_tl hH (k := 0) (t := tl H 0) (by decide) rfl) (fun v9 sh9 V9 n9 hp9 => ?_)
    obtain ⟨ea9, eb9, ec9, hv9⟩ := hp9
    cases ea9
    obtain rfl := eb9.symm
    obtain rfl := ec9.symm
    cases hv9
    refine fs_bipush (pc2 := 22) rfl rfl rfl ?_
    refine fs_isub (pc2 := 23) rfl rfl rfl ?_
    refine fs_aald (pc2 := 24) rfl rfl rfl (by assumption) i1 i2 ?_
    refine fs_aload_n (pc2 := 25) rfl rfl rfl rfl ?_
    refine fs_iconst (pc2 := 26) rfl rfl rfl ?_
    refine fs_callv (pc2 := 29) rfl rfl rfl rfl ⟨rfl, rfl⟩ (Nat.le_of_ble_eq_true rfl) (Nat.le_of_ble_eq_true rfl) (Nat.le_of_ble_eq_true rfl) (fs_rcv rfl (by assumption)) (e_tl hH (k := 1) (t := tl H 1) (by decide) rfl) (fun v9 sh9 V9 n9 hp9 => ?_)
    obtain ⟨ea9, eb9, ec9, hv9⟩ := hp9
    cases ea9
    obtain rfl := eb9.symm
    obtain rfl := ec9.symm
    cases hv9
    refine fs_callv (pc2 := 32) rfl rfl rfl rfl ⟨rfl, rfl⟩ (Nat.le_of_ble_eq_true rfl) (Nat.le_of_ble_eq_true rfl) (Nat.le_of_ble_eq_true rfl) (fs_rcv rfl (by assumption)) (e_Chan_hasFar (by omega) C0) (fun v9 sh9 V9 n9 hp9 => ?_)
    obtain ⟨ea9, eb9, ec9, hv9⟩ := hp9
    cases ea9
    obtain rfl := eb9.symm
    obtain rfl := ec9.symm
    cases hv9
    refine fs_if_eq (pc2 := 35) rfl rfl rfl (fun h32 => ?_) (fun h32 => ?_)
    · have k32 : ch_far (H.2.1 k) (tl H 1) = false := bI_0.mp h32
      have elv : ho_lv H sid = hoQ (hoN H 13 (H.1 13 + 1)) (H.2.2.2.2.1 ++ [[1, sid, 6, 0] ++ two 2 ++ two (tl H 0) ++ two (tl H 1)]) := by unfold ho_lv; rw [← ek, if_neg (by intro q; rw [k32] at q; cases q.2)]
      refine fs_aload_n (pc2 := 64) rfl rfl rfl rfl ?_
      first | refine fs_dup_r (pc2 := 65) rfl rfl rfl ?_ | refine fs_dup_i (pc2 := 65) rfl rfl rfl ?_
      refine fs_geti (pc2 := 68) rfl rfl rfl (by assumption) rfl ?_
      refine fs_iconst (pc2 := 69) rfl rfl rfl ?_
      refine fs_iadd (pc2 := 70) rfl rfl rfl ?_
      refine fs_puti (pc2 := 73) rfl rfl rfl (by assumption) rfl True.intro ?_
      refine fs_aload_n (pc2 := 74) rfl rfl rfl rfl ?_
      refine fs_iconst (pc2 := 75) rfl rfl rfl ?_
      refine fs_iload_n (pc2 := 76) rfl rfl rfl rfl ?_
      refine fs_iconst (pc2 := 77) rfl rfl rfl ?_
      refine fs_callv (pc2 := 80) rfl rfl rfl rfl ⟨rfl, rfl⟩ (Nat.le_of_ble_eq_true rfl) (Nat.le_of_ble_eq_true rfl) (Nat.le_of_ble_eq_true rfl) (fs_rcv rfl (by assumption)) (by rw [e13]; exact e_addSignal (co := 1) (k := 3) hA (by decide) hid (by decide) (by exact hlen) (hH.putN 13 (H.1 13 + 1))) (fun v9 sh9 V9 n9 hp9 => ?_)
      obtain ⟨ea9, e1x, k0, frs⟩ := hp9
      cases ea9
      obtain ⟨z0a, z0b⟩ := id (k0.lastRow rfl).1.1
      have fx0 := k0.1.1
      unfold isHo at fx0
      have frs := Fr.pre (fun a ha => by rw [up2_o (by omega)]) frs
      refine fs_astore_n (pc2 := 81) rfl rfl rfl (Nat.le_of_ble_eq_true rfl) ?_
      refine fs_aload_n (pc2 := 82) rfl rfl rfl rfl ?_
      refine fs_iconst (pc2 := 83) rfl rfl rfl ?_
      refine fs_callv (pc2 := 86) rfl rfl rfl rfl ⟨rfl, rfl⟩ (Nat.le_of_ble_eq_true rfl) (Nat.le_of_ble_eq_true rfl) (Nat.le_of_ble_eq_true rfl) (fs_rcv rfl (by assumption)) (by exact e_Row_addNumber (by decide : 2 < 65536) (k0.lastRow rfl).1 (by simp [two])) (fun v9 sh9 V9 n9 hp9 => ?_)
      obtain ⟨ea9, eb9, ec9, rr0, ff0⟩ := hp9
      cases ea9
      obtain rfl := eb9.symm
      obtain rfl := ec9.symm
      have k1 := k0.last rfl hlt rr0 ff0
      have fr1 := frs.row (Nat.le_refl _) ff0
      obtain ⟨z1, zz1⟩ := id (k1.lastRow rfl).1.1
      have fx1 := k1.1.1
      unfold isHo at fx1
      refine fs_aload_n (pc2 := 87) rfl rfl rfl rfl ?_
      refine fs_aload_n (pc2 := 88) rfl rfl rfl rfl ?_
      refine fs_iconst (pc2 := 89) rfl rfl rfl ?_
      refine fs_callv (pc2 := 92) rfl rfl rfl rfl ⟨rfl, rfl⟩ (Nat.le_of_ble_eq_true rfl) (Nat.le_of_ble_eq_true rfl) (Nat.le_of_ble_eq_true rfl) (fs_rcv rfl (by assumption)) (e_tl k1 (k := 0) (t := tl H 0) (by decide) rfl) (fun v9 sh9 V9 n9 hp9 => ?_)
      obtain ⟨ea9, eb9, ec9, hv9⟩ := hp9
      cases ea9
      obtain rfl := eb9.symm
      obtain rfl := ec9.symm
      cases hv9
      refine fs_callv (pc2 := 95) rfl rfl rfl rfl ⟨rfl, rfl⟩ (Nat.le_of_ble_eq_true rfl) (Nat.le_of_ble_eq_true rfl) (Nat.le_of_ble_eq_true rfl) (fs_rcv rfl (by assumption)) (by exact e_Row_addNumber t0b (k1.lastRow rfl).1 (by simp [two])) (fun v9 sh9 V9 n9 hp9 => ?_)
      obtain ⟨ea9, eb9, ec9, rr1, ff1⟩ := hp9
      cases ea9
      obtain rfl := eb9.symm
      obtain rfl := ec9.symm
      have k2 := k1.last rfl hlt rr1 ff1
      have fr2 := fr1.row (Nat.le_refl _) ff1
      obtain ⟨z2, zz2⟩ := id (k2.lastRow rfl).1.1
      have fx2 := k2.1.1
      unfold isHo at fx2
      refine fs_aload_n (pc2 := 96) rfl rfl rfl rfl ?_
      refine fs_aload_n (pc2 := 97) rfl rfl rfl rfl ?_
      refine fs_iconst (pc2 := 98) rfl rfl rfl ?_
      refine fs_callv (pc2 := 101) rfl rfl rfl rfl ⟨rfl, rfl⟩ (Nat.le_of_ble_eq_true rfl) (Nat.le_of_ble_eq_true rfl) (Nat.le_of_ble_eq_true rfl) (fs_rcv rfl (by assumption)) (e_tl k2 (k := 1) (t := tl H 1) (by decide) rfl) (fun v9 sh9 V9 n9 hp9 => ?_)
      obtain ⟨ea9, eb9, ec9, hv9⟩ := hp9
      cases ea9
      obtain rfl := eb9.symm
      obtain rfl := ec9.symm
      cases hv9
      refine fs_callv (pc2 := 104) rfl rfl rfl rfl ⟨rfl, rfl⟩ (Nat.le_of_ble_eq_true rfl) (Nat.le_of_ble_eq_true rfl) (Nat.le_of_ble_eq_true rfl) (fs_rcv rfl (by assumption)) (by exact e_Row_addNumber t1b (k2.lastRow rfl).1 (by simp [two])) (fun v9 sh9 V9 n9 hp9 => ?_)
      obtain ⟨ea9, eb9, ec9, rr2, ff2⟩ := hp9
      cases ea9
      obtain rfl := eb9.symm
      obtain rfl := ec9.symm
      have k3 := k2.last rfl hlt rr2 ff2
      have fr3 := fr2.row (Nat.le_refl _) ff2
      obtain ⟨z3, zz3⟩ := id (k3.lastRow rfl).1.1
      have fx3 := k3.1.1
      unfold isHo at fx3
      refine fs_ret rfl rfl ?_
      rw [elv] at hP
      exact hP _ _ _ _ ⟨rfl, e1x, _, k3, fr3⟩
    · have k32 : ch_far (H.2.1 k) (tl H 1) = true := by
        cases hb2 : ch_far (H.2.1 k) (tl H 1) with
        | true => rfl
        | false => rw [hb2] at h32; exact absurd rfl h32
      have elv : ho_lv H sid = hoQ (hoC H k (ch_close (H.2.1 k))) (H.2.2.2.2.1 ++ [[7, sid, 4, 0] ++ two (tl H 0) ++ two (tl H 1)]) := by unfold ho_lv; rw [← ek, if_pos ⟨k8, k32⟩]
      refine fs_aload_n (pc2 := 36) rfl rfl rfl rfl ?_
      refine fs_getr (pc2 := 39) rfl rfl rfl (by assumption) rfl ?_
      refine fs_aload_n (pc2 := 40) rfl rfl rfl rfl ?_
      refine fs_iconst (pc2 := 41) rfl rfl rfl ?_
      refine fs_callv (pc2 := 44) rfl rfl rfl rfl ⟨rfl, rfl⟩ (Nat.le_of_ble_eq_true rfl) (Nat.le_of_ble_eq_true rfl) (Nat.le_of_ble_eq_true rfl) (fs_rcv rfl (by assumption)) (e_tl hH (k := 0) (t := tl H 0) (by decide) rfl) (fun v9 sh9 V9 n9 hp9 => ?_)
      obtain ⟨ea9, eb9, ec9, hv9⟩ := hp9
      cases ea9
      obtain rfl := eb9.symm
      obtain rfl := ec9.symm
      cases hv9
      refine fs_bipush (pc2 := 46) rfl rfl rfl ?_
      refine fs_isub (pc2 := 47) rfl rfl rfl ?_
      refine fs_aald (pc2 := 48) rfl rfl rfl (by assumption) i1 i2 ?_
      refine fs_callv (pc2 := 51) rfl rfl rfl rfl ⟨rfl, rfl⟩ (Nat.le_of_ble_eq_true rfl) (Nat.le_of_ble_eq_true rfl) (Nat.le_of_ble_eq_true rfl) (fs_rcv rfl (by assumption)) (e_Chan_close C0) (fun v9 sh9 V9 n9 hp9 => ?_)
      obtain ⟨ea9, eb9, ec9, C1, hf1⟩ := hp9
      cases ea9
      obtain rfl := eb9.symm
      obtain rfl := ec9.symm
      have hH1 := hH.putC hk4 C1 (by simp [ch_open, ch_close, va_up, n0]) hf1
      refine fs_aload_n (pc2 := 52) rfl rfl rfl rfl ?_
      refine fs_bipush (pc2 := 54) rfl rfl rfl ?_
      refine fs_iload_n (pc2 := 55) rfl rfl rfl rfl ?_
      refine fs_iconst (pc2 := 56) rfl rfl rfl ?_
      refine fs_callv (pc2 := 59) rfl rfl rfl rfl ⟨rfl, rfl⟩ (Nat.le_of_ble_eq_true rfl) (Nat.le_of_ble_eq_true rfl) (Nat.le_of_ble_eq_true rfl) (fs_rcv rfl (by assumption)) (e_addSignal (co := 7) (k := 2) hA (by decide) hid (by decide) (by exact hlen) hH1) (fun v9 sh9 V9 n9 hp9 => ?_)
      obtain ⟨ea9, e1x, k0, frs⟩ := hp9
      cases ea9
      obtain ⟨z0a, z0b⟩ := id (k0.lastRow rfl).1.1
      have fx0 := k0.1.1
      unfold isHo at fx0
      have frs := Fr.pre (fun a ha => hf1 a (by omega)) frs
      refine fs_astore_n (pc2 := 60) rfl rfl rfl (Nat.le_of_ble_eq_true rfl) ?_
      refine fs_goto rfl rfl ?_
      refine fs_aload_n (pc2 := 87) rfl rfl rfl rfl ?_
      refine fs_aload_n (pc2 := 88) rfl rfl rfl rfl ?_
      refine fs_iconst (pc2 := 89) rfl rfl rfl ?_
      refine fs_callv (pc2 := 92) rfl rfl rfl rfl ⟨rfl, rfl⟩ (Nat.le_of_ble_eq_true rfl) (Nat.le_of_ble_eq_true rfl) (Nat.le_of_ble_eq_true rfl) (fs_rcv rfl (by assumption)) (e_tl k0 (k := 0) (t := tl H 0) (by decide) rfl) (fun v9 sh9 V9 n9 hp9 => ?_)
      obtain ⟨ea9, eb9, ec9, hv9⟩ := hp9
      cases ea9
      obtain rfl := eb9.symm
      obtain rfl := ec9.symm
      cases hv9
      refine fs_callv (pc2 := 95) rfl rfl rfl rfl ⟨rfl, rfl⟩ (Nat.le_of_ble_eq_true rfl) (Nat.le_of_ble_eq_true rfl) (Nat.le_of_ble_eq_true rfl) (fs_rcv rfl (by assumption)) (by exact e_Row_addNumber t0b (k0.lastRow rfl).1 (by simp [two])) (fun v9 sh9 V9 n9 hp9 => ?_)
      obtain ⟨ea9, eb9, ec9, rr0, ff0⟩ := hp9
      cases ea9
      obtain rfl := eb9.symm
      obtain rfl := ec9.symm
      have k1 := k0.last rfl hlt rr0 ff0
      have fr1 := frs.row (Nat.le_refl _) ff0
      obtain ⟨z1, zz1⟩ := id (k1.lastRow rfl).1.1
      have fx1 := k1.1.1
      unfold isHo at fx1
      refine fs_aload_n (pc2 := 96) rfl rfl rfl rfl ?_
      refine fs_aload_n (pc2 := 97) rfl rfl rfl rfl ?_
      refine fs_iconst (pc2 := 98) rfl rfl rfl ?_
      refine fs_callv (pc2 := 101) rfl rfl rfl rfl ⟨rfl, rfl⟩ (Nat.le_of_ble_eq_true rfl) (Nat.le_of_ble_eq_true rfl) (Nat.le_of_ble_eq_true rfl) (fs_rcv rfl (by assumption)) (e_tl k1 (k := 1) (t := tl H 1) (by decide) rfl) (fun v9 sh9 V9 n9 hp9 => ?_)
      obtain ⟨ea9, eb9, ec9, hv9⟩ := hp9
      cases ea9
      obtain rfl := eb9.symm
      obtain rfl := ec9.symm
      cases hv9
      refine fs_callv (pc2 := 104) rfl rfl rfl rfl ⟨rfl, rfl⟩ (Nat.le_of_ble_eq_true rfl) (Nat.le_of_ble_eq_true rfl) (Nat.le_of_ble_eq_true rfl) (fs_rcv rfl (by assumption)) (by exact e_Row_addNumber t1b (k1.lastRow rfl).1 (by simp [two])) (fun v9 sh9 V9 n9 hp9 => ?_)
      obtain ⟨ea9, eb9, ec9, rr1, ff1⟩ := hp9
      cases ea9
      obtain rfl := eb9.symm
      obtain rfl := ec9.symm
      have k2 := k1.last rfl hlt rr1 ff1
      have fr2 := fr1.row (Nat.le_refl _) ff1
      obtain ⟨z2, zz2⟩ := id (k2.lastRow rfl).1.1
      have fx2 := k2.1.1
      unfold isHo at fx2
      refine fs_ret rfl rfl ?_
      rw [elv] at hP
      exact hP _ _ _ _ ⟨rfl, e1x, _, k2, fr2⟩
set_option maxRecDepth 100000 in
set_option maxHeartbeats 4000000 in
theorem e_onCredit_loop (hH : Host sh V n K a0 hb e rs H) (hA : AlOK cy z0 a0 ext) (h9 : H.1 9 ≤ 255) (hlen : H.2.2.2.2.1.length < 512) {Ret : ev_P} (hP : ∀ (v : Option Value) (sh' : fl_S) (V' : fl_V) (n' : Nat), (fun v sh' V' n' => v = none ∧ ∃ e' rs', Host sh' V' n' K a0 hb e' rs' (ho_cred H) ∧ Fr hb a0 sh V n e sh' V' n' e') v sh' V' n' → Ret v (fl_f cy z0 sh' V') (z0 + n')) : ∀ (k i : Nat) (T : List (Nat × Value)), i + k = 4 → (T = [] ∨ ∃ q, T = [(2, .ref q)]) → (∀ j, j < i → ((H.2.1 j).1 1 == 2 && (H.2.1 j).1 6 == tl H 0) = false) → fl_R cy z0 (ev_M cy ext (d + 10)) 1 3 730 3 none kc_X1_onCredit Ret 2 ([(0, .ref (z0 + hb)), (1, .int (nI i))] ++ T) [] sh V n 0 0 := by
  obtain ⟨⟨f1, ⟨gc, f2, f3⟩, f4, f5, f6⟩, HC, HS, ⟨wh, HW⟩, HQ, HB, HG, HI⟩ := id hH
  unfold isHo at f1
  obtain ⟨b1, b2⟩ := id HB.1
  obtain ⟨t1, t2⟩ := id HG.1
  have al0 := HQ.1
  unfold eAl at al0
  have lnG : H.2.2.2.2.2.2.length ≤ 128 := HG.2.2.1
  have lnB : H.2.2.2.2.2.1.length ≤ 128 := HB.2.2.1
  have eG : V (hb + 182) 1 = nI H.2.2.2.2.2.2.length := HG.2.2.2.2.1
  have eB : V (hb + 180) 1 = nI H.2.2.2.2.2.1.length := HB.2.2.2.2.1
  have t0b := tl_lt hH 0
  have t1b := tl_lt hH 1
  have t2b := tl_lt hH 2
  have t3b := tl_lt hH 3
  have t4b := tl_lt hH 4
  intro k
  induction k with
  | zero =>
    intro i T hik hT hj
    have hi4 : i = 4 := by omega
    subst hi4
    have ec : ho_cred H = H := by unfold ho_cred; rw [first4_none hj]
    rw [ec] at hP
    refine fs_iload_n (pc2 := 3) rfl rfl rfl rfl ?_
    refine fs_iconst (pc2 := 4) rfl rfl rfl ?_
    refine fs_icmp_ge (pc2 := 7) rfl rfl rfl (fun h4 => ?_) (fun h4 => ?_)
    · refine fs_ret rfl rfl ?_
      exact hP _ _ _ _ ⟨rfl, e, rs, hH, Fr.refl⟩
    · exact absurd h4 (by decide)
  | succ k ih =>
    intro i T hik hT hj
    have i1 : vp_in (nI i) 4 := vp_in_nI (by omega) (by decide)
    have i2 : gc (nI i).toNatClampNeg = some (hb + 2 + 19 * i) := by rw [nI_clamp (by omega)]; exact f3 i (by omega)
    have hc := (HC i (by omega)).1
    have n0 := (HC i (by omega)).2
    have s0 := hc.1
    unfold isChan at s0
    obtain ⟨e1, l1⟩ := hc.i 1 (by omega)
    obtain ⟨e6, l6⟩ := hc.i 6 (by omega)
    obtain ⟨e9, l9⟩ := hc.i 9 (by omega)
    have b9 := hc.2.1 9
    have go : ((H.2.1 i).1 1 == 2 && (H.2.1 i).1 6 == tl H 0) = false → ∀ j, j < i + 1 → ((H.2.1 j).1 1 == 2 && (H.2.1 j).1 6 == tl H 0) = false := by
      intro hi j hji
      by_cases hj2 : j = i
      · subst hj2; exact hi
      · exact hj j (by omega)
    have ec : (H.2.1 i).1 1 = 2 → (H.2.1 i).1 6 = tl H 0 → ho_cred H = ho_cred1 H i := by
      intro q1 q2
      unfold ho_cred
      rw [first4_some (p := fun j => (H.2.1 j).1 1 == 2 && (H.2.1 j).1 6 == tl H 0) (i := i) (by omega) (by simp [q1, q2]) hj]
    have e9t : V (hb + 2 + 19 * i) 9 + nI (tl H 1) = nI ((H.2.1 i).1 9 + tl H 1) := by rw [e9, nI_add]
    rcases hT with rfl | ⟨q, rfl⟩
    · refine fs_iload_n (pc2 := 3) rfl rfl rfl rfl ?_
      refine fs_iconst (pc2 := 4) rfl rfl rfl ?_
      refine fs_icmp_ge (pc2 := 7) rfl rfl rfl (fun h4 => ?_) (fun h4 => ?_)
      · exact absurd (nI_lt (a := i) (b := 4) (by omega) (by decide)) h4
      · refine fs_aload_n (pc2 := 8) rfl rfl rfl rfl ?_
        refine fs_getr (pc2 := 11) rfl rfl rfl (by assumption) rfl ?_
        refine fs_iload_n (pc2 := 12) rfl rfl rfl rfl ?_
        refine fs_aald (pc2 := 13) rfl rfl rfl (by assumption) i1 i2 ?_
        refine fs_astore_n (pc2 := 14) rfl rfl rfl (Nat.le_of_ble_eq_true rfl) ?_
        refine fs_aload_n (pc2 := 15) rfl rfl rfl rfl ?_
        refine fs_geti (pc2 := 18) rfl rfl rfl (by assumption) rfl ?_
        refine fs_iconst (pc2 := 19) rfl rfl rfl ?_
        refine fs_icmp_ne (pc2 := 22) rfl rfl rfl (fun h19 => ?_) (fun h19 => ?_)
        · have k19 : (H.2.1 i).1 1 ≠ 2 := c_ne h19 e1 rfl
          refine fs_iinc (pc2 := 84) rfl rfl rfl (Nat.le_of_ble_eq_true rfl) rfl ?_
          refine fs_goto rfl rfl ?_
          rw [nI_1 i]
          exact ih (i + 1) _ (by omega) (Or.inr ⟨_, rfl⟩) (go (by simp [k19]))
        · have k19 : (H.2.1 i).1 1 = 2 := c_eq h19 e1 rfl
          refine fs_aload_n (pc2 := 23) rfl rfl rfl rfl ?_
          refine fs_geti (pc2 := 26) rfl rfl rfl (by assumption) rfl ?_
          refine fs_aload_n (pc2 := 27) rfl rfl rfl rfl ?_
          refine fs_iconst (pc2 := 28) rfl rfl rfl ?_
          refine fs_callv (pc2 := 31) rfl rfl rfl rfl ⟨rfl, rfl⟩ (Nat.le_of_ble_eq_true rfl) (Nat.le_of_ble_eq_true rfl) (Nat.le_of_ble_eq_true rfl) (fs_rcv rfl (by assumption)) (e_tl hH (k := 0) (t := tl H 0) (by decide) rfl) (fun v9 sh9 V9 n9 hp9 => ?_)
          obtain ⟨ea9, eb9, ec9, hv9⟩ := hp9
          cases ea9
          obtain rfl := eb9.symm
          obtain rfl := ec9.symm
          cases hv9
          refine fs_icmp_ne (pc2 := 34) rfl rfl rfl (fun h31 => ?_) (fun h31 => ?_)
          · have k31 : (H.2.1 i).1 6 ≠ tl H 0 := c_ne h31 e6 rfl
            refine fs_iinc (pc2 := 84) rfl rfl rfl (Nat.le_of_ble_eq_true rfl) rfl ?_
            refine fs_goto rfl rfl ?_
            rw [nI_1 i]
            exact ih (i + 1) _ (by omega) (Or.inr ⟨_, rfl⟩) (go (by simp [k19, k31]))
          · have k31 : (H.2.1 i).1 6 = tl H 0 := c_eq h31 e6 rfl
            rw [ec k19 k31] at hP
            unfold ho_cred1 at hP
            refine fs_aload_n (pc2 := 35) rfl rfl rfl rfl ?_
            refine fs_iconst (pc2 := 36) rfl rfl rfl ?_
            refine fs_callv (pc2 := 39) rfl rfl rfl rfl ⟨rfl, rfl⟩ (Nat.le_of_ble_eq_true rfl) (Nat.le_of_ble_eq_true rfl) (Nat.le_of_ble_eq_true rfl) (fs_rcv rfl (by assumption)) (e_tl hH (k := 1) (t := tl H 1) (by decide) rfl) (fun v9 sh9 V9 n9 hp9 => ?_)
            obtain ⟨ea9, eb9, ec9, hv9⟩ := hp9
            cases ea9
            obtain rfl := eb9.symm
            obtain rfl := ec9.symm
            cases hv9
            refine fs_if_eq (pc2 := 42) rfl rfl rfl (fun h39 => ?_) (fun h39 => ?_)
            · have k39 : tl H 1 = 0 := c_eq h39 rfl rfl
              rw [if_pos (Or.inl k39)] at hP
              refine fs_aload_n (pc2 := 59) rfl rfl rfl rfl ?_
              refine fs_aload_n (pc2 := 60) rfl rfl rfl rfl ?_
              refine fs_callv (pc2 := 63) rfl rfl rfl rfl ⟨rfl, rfl⟩ (Nat.le_of_ble_eq_true rfl) (Nat.le_of_ble_eq_true rfl) (Nat.le_of_ble_eq_true rfl) (fs_rcv rfl (by assumption)) (e_beginLeaving hA h9 hlen (k := i) (by omega) hH) (fun v9 sh9 V9 n9 hp9 => ?_)
              have hP9 := hP _ _ _ _ hp9
              obtain ⟨ea9, eb9⟩ := hp9
              cases ea9
              refine fs_goto rfl rfl ?_
              refine fs_ret rfl rfl ?_
              exact hP9
            · have k39 : tl H 1 ≠ 0 := c_ne h39 rfl rfl
              refine fs_aload_n (pc2 := 43) rfl rfl rfl rfl ?_
              refine fs_geti (pc2 := 46) rfl rfl rfl (by assumption) rfl ?_
              refine fs_aload_n (pc2 := 47) rfl rfl rfl rfl ?_
              refine fs_iconst (pc2 := 48) rfl rfl rfl ?_
              refine fs_callv (pc2 := 51) rfl rfl rfl rfl ⟨rfl, rfl⟩ (Nat.le_of_ble_eq_true rfl) (Nat.le_of_ble_eq_true rfl) (Nat.le_of_ble_eq_true rfl) (fs_rcv rfl (by assumption)) (e_tl hH (k := 1) (t := tl H 1) (by decide) rfl) (fun v9 sh9 V9 n9 hp9 => ?_)
              obtain ⟨ea9, eb9, ec9, hv9⟩ := hp9
              cases ea9
              obtain rfl := eb9.symm
              obtain rfl := ec9.symm
              cases hv9
              refine fs_iadd (pc2 := 52) rfl rfl rfl ?_
              refine fs_ldc_w (pc2 := 55) rfl rfl rfl ?_
              refine fs_icmp_le (pc2 := 58) rfl rfl rfl (fun h55 => ?_) (fun h55 => ?_)
              · have k55 : (H.2.1 i).1 9 + tl H 1 ≤ 65535 := c_le h55 e9t rfl
                rw [if_neg (by omega)] at hP
                refine fs_aload_n (pc2 := 67) rfl rfl rfl rfl ?_
                first | refine fs_dup_r (pc2 := 68) rfl rfl rfl ?_ | refine fs_dup_i (pc2 := 68) rfl rfl rfl ?_
                refine fs_geti (pc2 := 71) rfl rfl rfl (by assumption) rfl ?_
                refine fs_aload_n (pc2 := 72) rfl rfl rfl rfl ?_
                refine fs_iconst (pc2 := 73) rfl rfl rfl ?_
                refine fs_callv (pc2 := 76) rfl rfl rfl rfl ⟨rfl, rfl⟩ (Nat.le_of_ble_eq_true rfl) (Nat.le_of_ble_eq_true rfl) (Nat.le_of_ble_eq_true rfl) (fs_rcv rfl (by assumption)) (e_tl hH (k := 1) (t := tl H 1) (by decide) rfl) (fun v9 sh9 V9 n9 hp9 => ?_)
                obtain ⟨ea9, eb9, ec9, hv9⟩ := hp9
                cases ea9
                obtain rfl := eb9.symm
                obtain rfl := ec9.symm
                cases hv9
                refine fs_iadd (pc2 := 77) rfl rfl rfl ?_
                refine fs_puti (pc2 := 80) rfl rfl rfl (by assumption) rfl True.intro ?_
                refine fs_ret rfl rfl ?_
                refine hP _ _ _ _ ⟨rfl, e, rs, hH.putC (k := i) (by omega) ?_ (by simp [ch_open, ch_close, va_up, n0]) (fun a ha => up2_o (by omega)), Fr.same (fun a ha => up2_o (by omega))⟩
                rw [e9t]
                exact hc.put (j := 9) (by omega) (by decide)
              · have k55 : 65535 < (H.2.1 i).1 9 + tl H 1 := c_nle h55 e9t rfl
                rw [if_pos (Or.inr k55)] at hP
                refine fs_aload_n (pc2 := 59) rfl rfl rfl rfl ?_
                refine fs_aload_n (pc2 := 60) rfl rfl rfl rfl ?_
                refine fs_callv (pc2 := 63) rfl rfl rfl rfl ⟨rfl, rfl⟩ (Nat.le_of_ble_eq_true rfl) (Nat.le_of_ble_eq_true rfl) (Nat.le_of_ble_eq_true rfl) (fs_rcv rfl (by assumption)) (e_beginLeaving hA h9 hlen (k := i) (by omega) hH) (fun v9 sh9 V9 n9 hp9 => ?_)
                have hP9 := hP _ _ _ _ hp9
                obtain ⟨ea9, eb9⟩ := hp9
                cases ea9
                refine fs_goto rfl rfl ?_
                refine fs_ret rfl rfl ?_
                exact hP9
    · refine fs_iload_n (pc2 := 3) rfl rfl rfl rfl ?_
      refine fs_iconst (pc2 := 4) rfl rfl rfl ?_
      refine fs_icmp_ge (pc2 := 7) rfl rfl rfl (fun h4 => ?_) (fun h4 => ?_)
      · exact absurd (nI_lt (a := i) (b := 4) (by omega) (by decide)) h4
      · refine fs_aload_n (pc2 := 8) rfl rfl rfl rfl ?_
        refine fs_getr (pc2 := 11) rfl rfl rfl (by assumption) rfl ?_
        refine fs_iload_n (pc2 := 12) rfl rfl rfl rfl ?_
        refine fs_aald (pc2 := 13) rfl rfl rfl (by assumption) i1 i2 ?_
        refine fs_astore_n (pc2 := 14) rfl rfl rfl (Nat.le_of_ble_eq_true rfl) ?_
        refine fs_aload_n (pc2 := 15) rfl rfl rfl rfl ?_
        refine fs_geti (pc2 := 18) rfl rfl rfl (by assumption) rfl ?_
        refine fs_iconst (pc2 := 19) rfl rfl rfl ?_
        refine fs_icmp_ne (pc2 := 22) rfl rfl rfl (fun h19 => ?_) (fun h19 => ?_)
        · have k19 : (H.2.1 i).1 1 ≠ 2 := c_ne h19 e1 rfl
          refine fs_iinc (pc2 := 84) rfl rfl rfl (Nat.le_of_ble_eq_true rfl) rfl ?_
          refine fs_goto rfl rfl ?_
          rw [nI_1 i]
          exact ih (i + 1) _ (by omega) (Or.inr ⟨_, rfl⟩) (go (by simp [k19]))
        · have k19 : (H.2.1 i).1 1 = 2 := c_eq h19 e1 rfl
          refine fs_aload_n (pc2 := 23) rfl rfl rfl rfl ?_
          refine fs_geti (pc2 := 26) rfl rfl rfl (by assumption) rfl ?_
          refine fs_aload_n (pc2 := 27) rfl rfl rfl rfl ?_
          refine fs_iconst (pc2 := 28) rfl rfl rfl ?_
          refine fs_callv (pc2 := 31) rfl rfl rfl rfl ⟨rfl, rfl⟩ (Nat.le_of_ble_eq_true rfl) (Nat.le_of_ble_eq_true rfl) (Nat.le_of_ble_eq_true rfl) (fs_rcv rfl (by assumption)) (e_tl hH (k := 0) (t := tl H 0) (by decide) rfl) (fun v9 sh9 V9 n9 hp9 => ?_)
          obtain ⟨ea9, eb9, ec9, hv9⟩ := hp9
          cases ea9
          obtain rfl := eb9.symm
          obtain rfl := ec9.symm
          cases hv9
          refine fs_icmp_ne (pc2 := 34) rfl rfl rfl (fun h31 => ?_) (fun h31 => ?_)
          · have k31 : (H.2.1 i).1 6 ≠ tl H 0 := c_ne h31 e6 rfl
            refine fs_iinc (pc2 := 84) rfl rfl rfl (Nat.le_of_ble_eq_true rfl) rfl ?_
            refine fs_goto rfl rfl ?_
            rw [nI_1 i]
            exact ih (i + 1) _ (by omega) (Or.inr ⟨_, rfl⟩) (go (by simp [k19, k31]))
          · have k31 : (H.2.1 i).1 6 = tl H 0 := c_eq h31 e6 rfl
            rw [ec k19 k31] at hP
            unfold ho_cred1 at hP
            refine fs_aload_n (pc2 := 35) rfl rfl rfl rfl ?_
            refine fs_iconst (pc2 := 36) rfl rfl rfl ?_
            refine fs_callv (pc2 := 39) rfl rfl rfl rfl ⟨rfl, rfl⟩ (Nat.le_of_ble_eq_true rfl) (Nat.le_of_ble_eq_true rfl) (Nat.le_of_ble_eq_true rfl) (fs_rcv rfl (by assumption)) (e_tl hH (k := 1) (t := tl H 1) (by decide) rfl) (fun v9 sh9 V9 n9 hp9 => ?_)
            obtain ⟨ea9, eb9, ec9, hv9⟩ := hp9
            cases ea9
            obtain rfl := eb9.symm
            obtain rfl := ec9.symm
            cases hv9
            refine fs_if_eq (pc2 := 42) rfl rfl rfl (fun h39 => ?_) (fun h39 => ?_)
            · have k39 : tl H 1 = 0 := c_eq h39 rfl rfl
              rw [if_pos (Or.inl k39)] at hP
              refine fs_aload_n (pc2 := 59) rfl rfl rfl rfl ?_
              refine fs_aload_n (pc2 := 60) rfl rfl rfl rfl ?_
              refine fs_callv (pc2 := 63) rfl rfl rfl rfl ⟨rfl, rfl⟩ (Nat.le_of_ble_eq_true rfl) (Nat.le_of_ble_eq_true rfl) (Nat.le_of_ble_eq_true rfl) (fs_rcv rfl (by assumption)) (e_beginLeaving hA h9 hlen (k := i) (by omega) hH) (fun v9 sh9 V9 n9 hp9 => ?_)
              have hP9 := hP _ _ _ _ hp9
              obtain ⟨ea9, eb9⟩ := hp9
              cases ea9
              refine fs_goto rfl rfl ?_
              refine fs_ret rfl rfl ?_
              exact hP9
            · have k39 : tl H 1 ≠ 0 := c_ne h39 rfl rfl
              refine fs_aload_n (pc2 := 43) rfl rfl rfl rfl ?_
              refine fs_geti (pc2 := 46) rfl rfl rfl (by assumption) rfl ?_
              refine fs_aload_n (pc2 := 47) rfl rfl rfl rfl ?_
              refine fs_iconst (pc2 := 48) rfl rfl rfl ?_
              refine fs_callv (pc2 := 51) rfl rfl rfl rfl ⟨rfl, rfl⟩ (Nat.le_of_ble_eq_true rfl) (Nat.le_of_ble_eq_true rfl) (Nat.le_of_ble_eq_true rfl) (fs_rcv rfl (by assumption)) (e_tl hH (k := 1) (t := tl H 1) (by decide) rfl) (fun v9 sh9 V9 n9 hp9 => ?_)
              obtain ⟨ea9, eb9, ec9, hv9⟩ := hp9
              cases ea9
              obtain rfl := eb9.symm
              obtain rfl := ec9.symm
              cases hv9
              refine fs_iadd (pc2 := 52) rfl rfl rfl ?_
              refine fs_ldc_w (pc2 := 55) rfl rfl rfl ?_
              refine fs_icmp_le (pc2 := 58) rfl rfl rfl (fun h55 => ?_) (fun h55 => ?_)
              · have k55 : (H.2.1 i).1 9 + tl H 1 ≤ 65535 := c_le h55 e9t rfl
                rw [if_neg (by omega)] at hP
                refine fs_aload_n (pc2 := 67) rfl rfl rfl rfl ?_
                first | refine fs_dup_r (pc2 := 68) rfl rfl rfl ?_ | refine fs_dup_i (pc2 := 68) rfl rfl rfl ?_
                refine fs_geti (pc2 := 71) rfl rfl rfl (by assumption) rfl ?_
                refine fs_aload_n (pc2 := 72) rfl rfl rfl rfl ?_
                refine fs_iconst (pc2 := 73) rfl rfl rfl ?_
                refine fs_callv (pc2 := 76) rfl rfl rfl rfl ⟨rfl, rfl⟩ (Nat.le_of_ble_eq_true rfl) (Nat.le_of_ble_eq_true rfl) (Nat.le_of_ble_eq_true rfl) (fs_rcv rfl (by assumption)) (e_tl hH (k := 1) (t := tl H 1) (by decide) rfl) (fun v9 sh9 V9 n9 hp9 => ?_)
                obtain ⟨ea9, eb9, ec9, hv9⟩ := hp9
                cases ea9
                obtain rfl := eb9.symm
                obtain rfl := ec9.symm
                cases hv9
                refine fs_iadd (pc2 := 77) rfl rfl rfl ?_
                refine fs_puti (pc2 := 80) rfl rfl rfl (by assumption) rfl True.intro ?_
                refine fs_ret rfl rfl ?_
                refine hP _ _ _ _ ⟨rfl, e, rs, hH.putC (k := i) (by omega) ?_ (by simp [ch_open, ch_close, va_up, n0]) (fun a ha => up2_o (by omega)), Fr.same (fun a ha => up2_o (by omega))⟩
                rw [e9t]
                exact hc.put (j := 9) (by omega) (by decide)
              · have k55 : 65535 < (H.2.1 i).1 9 + tl H 1 := c_nle h55 e9t rfl
                rw [if_pos (Or.inr k55)] at hP
                refine fs_aload_n (pc2 := 59) rfl rfl rfl rfl ?_
                refine fs_aload_n (pc2 := 60) rfl rfl rfl rfl ?_
                refine fs_callv (pc2 := 63) rfl rfl rfl rfl ⟨rfl, rfl⟩ (Nat.le_of_ble_eq_true rfl) (Nat.le_of_ble_eq_true rfl) (Nat.le_of_ble_eq_true rfl) (fs_rcv rfl (by assumption)) (e_beginLeaving hA h9 hlen (k := i) (by omega) hH) (fun v9 sh9 V9 n9 hp9 => ?_)
                have hP9 := hP _ _ _ _ hp9
                obtain ⟨ea9, eb9⟩ := hp9
                cases ea9
                refine fs_goto rfl rfl ?_
                refine fs_ret rfl rfl ?_
                exact hP9
set_option maxRecDepth 100000 in
set_option maxHeartbeats 4000000 in
theorem e_onCredit (hA : AlOK cy z0 a0 ext) (h9 : H.1 9 ≤ 255) (hlen : H.2.2.2.2.1.length < 512) (hH : Host sh V n K a0 hb e rs H) : fl_M cy z0 ext (d + 11) m_X1_onCredit [.ref (z0 + hb)] sh V n (fun v sh' V' n' => v = none ∧ ∃ e' rs', Host sh' V' n' K a0 hb e' rs' (ho_cred H) ∧ Fr hb a0 sh V n e sh' V' n' e') := by
  obtain ⟨⟨f1, ⟨gc, f2, f3⟩, f4, f5, f6⟩, HC, HS, ⟨wh, HW⟩, HQ, HB, HG, HI⟩ := id hH
  unfold isHo at f1
  obtain ⟨b1, b2⟩ := id HB.1
  obtain ⟨t1, t2⟩ := id HG.1
  have al0 := HQ.1
  unfold eAl at al0
  have lnG : H.2.2.2.2.2.2.length ≤ 128 := HG.2.2.1
  have lnB : H.2.2.2.2.2.1.length ≤ 128 := HB.2.2.1
  have eG : V (hb + 182) 1 = nI H.2.2.2.2.2.2.length := HG.2.2.2.2.1
  have eB : V (hb + 180) 1 = nI H.2.2.2.2.2.1.length := HB.2.2.2.2.1
  refine fs_body rfl rfl (fun Ret hP => ?_)
  refine fs_iconst (pc2 := 1) rfl rfl rfl ?_
  refine fs_istore_n (pc2 := 2) rfl rfl rfl (Nat.le_of_ble_eq_true rfl) ?_
  exact e_onCredit_loop hH hA h9 hlen hP 4 0 [] (by omega) (Or.inl rfl) (fun j hj => by omega)
end ON2
