def sigOK (co l : Nat) : Bool := decide ((l = 10 ∧ (co = 20 ∨ co = 21)) ∨ (l = 4 ∧ (co = 22 ∨ co = 6 ∨ co = 7)) ∨ (co = 1 ∧ (l = 2 ∨ l = 6)))
def ho_sigd (H : Ho) (co sid : Nat) : Ho := if co = 20 then ho_req H sid else if co = 21 then ho_ans H sid else if co = 22 then ho_cred H else if co = 6 then ho_lv H sid else if co = 7 then ho_left H else ho_rej H sid
def ho_sig (H : Ho) : Ho := if H.2.2.2.2.2.2.length < 8 ∨ H.2.2.2.2.2.2.getD 5 0 = 0 then H else if num2 H.2.2.2.2.2.2 6 ≠ H.2.2.2.2.2.2.length - 8 ∨ sigOK (H.2.2.2.2.2.2.getD 4 0) (H.2.2.2.2.2.2.length - 8) = false then hoQ (hoN H 13 (H.1 13 + 1)) (H.2.2.2.2.1 ++ [[1, H.2.2.2.2.2.2.getD 5 0, 2, 0] ++ two 0]) else ho_sigd H (H.2.2.2.2.2.2.getD 4 0) (H.2.2.2.2.2.2.getD 5 0)
def ho_seg (H : Ho) (nb : Nat) : Ho := if (64 ≤ nb ∧ nb < 68) ∧ (H.2.1 (nb - 64)).1 1 = 2 then (if (ch_read (H.2.1 (nb - 64)) H.2.2.2.2.2.2).1 = true then hoC H (nb - 64) (ch_read (H.2.1 (nb - 64)) H.2.2.2.2.2.2).2 else ho_leave (hoC H (nb - 64) (ch_read (H.2.1 (nb - 64)) H.2.2.2.2.2.2).2) (nb - 64)) else hoN H 12 (H.1 12 + 1)
def ho_unitH (H : Ho) : Ho := hoG (if num2 H.2.2.2.2.2.2 2 = 5 then ho_sig (hoN H 11 (H.1 11 + 1)) else ho_seg (hoN H 11 (H.1 11 + 1)) (num2 H.2.2.2.2.2.2 2)) []
theorem ch_read2_0 (y : Ch) (k : Nat) (zs : List Nat) : (ch_read2 y k zs).2.1 = y.1 := by
  unfold ch_read2 ch_keep
  repeat' split
  all_goals rfl
theorem ch_read_0 (y : Ch) (us : List Nat) (j : Nat) (hj : j ≠ 5) : (ch_read y us).2.1 j = y.1 j := by
  unfold ch_read
  repeat' split
  all_goals first | rfl | (rw [ch_read2_0]; simp [va_up, hj]) | simp [va_up, hj]
section HANDLE
variable {cy : Nat → ClassId} {z0 : Nat} {ext : Nat → Nat → List Value → ev_H → Nat → ev_P → Prop} {d : Nat} {sh : fl_S} {V : fl_V} {n K a0 hb e : Nat} {rs : List Nat} {H : Ho}
theorem e_Row_atN {r room j : Nat} {xs : List Nat} (hr : Row sh V r room xs) (hj : j < xs.length) : fl_M cy z0 ext (d + 1) m_X3_at [.ref (z0 + r), .int (nI j)] sh V n (fun v' sh' V' n' => v' = some (.int (nI (xs.getD j 0))) ∧ sh' = sh ∧ n' = n ∧ V' = V) := by
  have hl := hr.lt
  refine (e_Row_at hr).mono (fun v sh' V' n' hp => ?_)
  rw [if_pos ⟨nI_pos' (by omega), nI_lt hj hl⟩, nI_clamp (by omega)] at hp
  exact hp
theorem KA_KB {m : Nat} {as : List Value} {H' : Ho} {w : Option Value} (h : fl_M cy z0 ext d m as sh V n (fun v sh' V' n' => v = w ∧ sh' = sh ∧ n' = n ∧ Host sh V' n K a0 hb e rs H' ∧ ∀ a, (a < hb ∨ hb + 184 ≤ a) → V' a = V a)) : fl_M cy z0 ext d m as sh V n (fun v sh' V' n' => v = w ∧ ∃ e' rs', Host sh' V' n' K a0 hb e' rs' H' ∧ Fr hb a0 sh V n e sh' V' n' e') := h.mono (fun v sh' V' n' hp => by
  obtain ⟨e1, e2, e3, e4, e5⟩ := hp
  subst e2; subst e3
  exact ⟨e1, e, rs, e4, Fr.same e5⟩)
set_option maxRecDepth 100000 in
set_option maxHeartbeats 4000000 in
theorem e_isSignal {co l : Nat} (hco : co < 65536) (hl : l < 65536) : fl_M cy z0 ext (d + 1) m_X1_isSignal [.int (nI co), .int (nI l)] sh V n (fun v sh' V' n' => v = some (.int (bI (sigOK co l))) ∧ sh' = sh ∧ n' = n ∧ V' = V) := by
  refine fs_body rfl rfl (fun Ret hP => ?_)
  refine fs_iload_n (pc2 := 1) rfl rfl rfl rfl ?_
  by_cases q1 : co = 1
  · refine fs_lsw (off := 82) (pc2 := 83) rfl rfl (by rw [q1]; rfl) rfl ?_
    refine fs_iload_n (pc2 := 84) rfl rfl rfl rfl ?_
    refine fs_iconst (pc2 := 85) rfl rfl rfl ?_
    refine fs_icmp_eq (pc2 := 88) rfl rfl rfl (fun h85 => ?_) (fun h85 => ?_)
    · have k85 : l = 2 := c_eq h85 rfl rfl
      refine fs_iconst (pc2 := 95) rfl rfl rfl ?_
      refine fs_goto rfl rfl ?_
      refine fs_iret rfl rfl (Or.inr rfl) ?_
      refine hP _ _ _ _ ⟨?_, rfl, rfl, rfl⟩
      rw [show sigOK co l = true from decide_eq_true (by omega)]
      rfl
    · have k85 : l ≠ 2 := c_ne h85 rfl rfl
      refine fs_iload_n (pc2 := 89) rfl rfl rfl rfl ?_
      refine fs_bipush (pc2 := 91) rfl rfl rfl ?_
      refine fs_icmp_ne (pc2 := 94) rfl rfl rfl (fun h91 => ?_) (fun h91 => ?_)
      · have k91 : l ≠ 6 := c_ne h91 rfl rfl
        refine fs_iconst (pc2 := 99) rfl rfl rfl ?_
        refine fs_iret rfl rfl (Or.inl rfl) ?_
        refine hP _ _ _ _ ⟨?_, rfl, rfl, rfl⟩
        rw [show sigOK co l = false from decide_eq_false (by omega)]
        rfl
      · have k91 : l = 6 := c_eq h91 rfl rfl
        refine fs_iconst (pc2 := 95) rfl rfl rfl ?_
        refine fs_goto rfl rfl ?_
        refine fs_iret rfl rfl (Or.inr rfl) ?_
        refine hP _ _ _ _ ⟨?_, rfl, rfl, rfl⟩
        rw [show sigOK co l = true from decide_eq_true (by omega)]
        rfl
  by_cases q6 : co = 6
  · refine fs_lsw (off := 71) (pc2 := 72) rfl rfl (by rw [q6]; rfl) rfl ?_
    refine fs_iload_n (pc2 := 73) rfl rfl rfl rfl ?_
    refine fs_iconst (pc2 := 74) rfl rfl rfl ?_
    refine fs_icmp_ne (pc2 := 77) rfl rfl rfl (fun h74 => ?_) (fun h74 => ?_)
    · have k74 : l ≠ 4 := c_ne h74 rfl rfl
      refine fs_iconst (pc2 := 82) rfl rfl rfl ?_
      refine fs_iret rfl rfl (Or.inl rfl) ?_
      refine hP _ _ _ _ ⟨?_, rfl, rfl, rfl⟩
      rw [show sigOK co l = false from decide_eq_false (by omega)]
      rfl
    · have k74 : l = 4 := c_eq h74 rfl rfl
      refine fs_iconst (pc2 := 78) rfl rfl rfl ?_
      refine fs_goto rfl rfl ?_
      refine fs_iret rfl rfl (Or.inr rfl) ?_
      refine hP _ _ _ _ ⟨?_, rfl, rfl, rfl⟩
      rw [show sigOK co l = true from decide_eq_true (by omega)]
      rfl
  by_cases q7 : co = 7
  · refine fs_lsw (off := 71) (pc2 := 72) rfl rfl (by rw [q7]; rfl) rfl ?_
    refine fs_iload_n (pc2 := 73) rfl rfl rfl rfl ?_
    refine fs_iconst (pc2 := 74) rfl rfl rfl ?_
    refine fs_icmp_ne (pc2 := 77) rfl rfl rfl (fun h74 => ?_) (fun h74 => ?_)
    · have k74 : l ≠ 4 := c_ne h74 rfl rfl
      refine fs_iconst (pc2 := 82) rfl rfl rfl ?_
      refine fs_iret rfl rfl (Or.inl rfl) ?_
      refine hP _ _ _ _ ⟨?_, rfl, rfl, rfl⟩
      rw [show sigOK co l = false from decide_eq_false (by omega)]
      rfl
    · have k74 : l = 4 := c_eq h74 rfl rfl
      refine fs_iconst (pc2 := 78) rfl rfl rfl ?_
      refine fs_goto rfl rfl ?_
      refine fs_iret rfl rfl (Or.inr rfl) ?_
      refine hP _ _ _ _ ⟨?_, rfl, rfl, rfl⟩
      rw [show sigOK co l = true from decide_eq_true (by omega)]
      rfl
  by_cases q20 : co = 20
  · refine fs_lsw (off := 59) (pc2 := 60) rfl rfl (by rw [q20]; rfl) rfl ?_
    refine fs_iload_n (pc2 := 61) rfl rfl rfl rfl ?_
    refine fs_bipush (pc2 := 63) rfl rfl rfl ?_
    refine fs_icmp_ne (pc2 := 66) rfl rfl rfl (fun h63 => ?_) (fun h63 => ?_)
    · have k63 : l ≠ 10 := c_ne h63 rfl rfl
      refine fs_iconst (pc2 := 71) rfl rfl rfl ?_
      refine fs_iret rfl rfl (Or.inl rfl) ?_
      refine hP _ _ _ _ ⟨?_, rfl, rfl, rfl⟩
      rw [show sigOK co l = false from decide_eq_false (by omega)]
      rfl
    · have k63 : l = 10 := c_eq h63 rfl rfl
      refine fs_iconst (pc2 := 67) rfl rfl rfl ?_
      refine fs_goto rfl rfl ?_
      refine fs_iret rfl rfl (Or.inr rfl) ?_
      refine hP _ _ _ _ ⟨?_, rfl, rfl, rfl⟩
      rw [show sigOK co l = true from decide_eq_true (by omega)]
      rfl
  by_cases q21 : co = 21
  · refine fs_lsw (off := 59) (pc2 := 60) rfl rfl (by rw [q21]; rfl) rfl ?_
    refine fs_iload_n (pc2 := 61) rfl rfl rfl rfl ?_
    refine fs_bipush (pc2 := 63) rfl rfl rfl ?_
    refine fs_icmp_ne (pc2 := 66) rfl rfl rfl (fun h63 => ?_) (fun h63 => ?_)
    · have k63 : l ≠ 10 := c_ne h63 rfl rfl
      refine fs_iconst (pc2 := 71) rfl rfl rfl ?_
      refine fs_iret rfl rfl (Or.inl rfl) ?_
      refine hP _ _ _ _ ⟨?_, rfl, rfl, rfl⟩
      rw [show sigOK co l = false from decide_eq_false (by omega)]
      rfl
    · have k63 : l = 10 := c_eq h63 rfl rfl
      refine fs_iconst (pc2 := 67) rfl rfl rfl ?_
      refine fs_goto rfl rfl ?_
      refine fs_iret rfl rfl (Or.inr rfl) ?_
      refine hP _ _ _ _ ⟨?_, rfl, rfl, rfl⟩
      rw [show sigOK co l = true from decide_eq_true (by omega)]
      rfl
  by_cases q22 : co = 22
  · refine fs_lsw (off := 71) (pc2 := 72) rfl rfl (by rw [q22]; rfl) rfl ?_
    refine fs_iload_n (pc2 := 73) rfl rfl rfl rfl ?_
    refine fs_iconst (pc2 := 74) rfl rfl rfl ?_
    refine fs_icmp_ne (pc2 := 77) rfl rfl rfl (fun h74 => ?_) (fun h74 => ?_)
    · have k74 : l ≠ 4 := c_ne h74 rfl rfl
      refine fs_iconst (pc2 := 82) rfl rfl rfl ?_
      refine fs_iret rfl rfl (Or.inl rfl) ?_
      refine hP _ _ _ _ ⟨?_, rfl, rfl, rfl⟩
      rw [show sigOK co l = false from decide_eq_false (by omega)]
      rfl
    · have k74 : l = 4 := c_eq h74 rfl rfl
      refine fs_iconst (pc2 := 78) rfl rfl rfl ?_
      refine fs_goto rfl rfl ?_
      refine fs_iret rfl rfl (Or.inr rfl) ?_
      refine hP _ _ _ _ ⟨?_, rfl, rfl, rfl⟩
      rw [show sigOK co l = true from decide_eq_true (by omega)]
      rfl
  refine fs_lsw (off := 99) (pc2 := 100) rfl rfl (by rw [nI_toInt (by omega)]; show Op.lookupswitch.offset [(1, 82), (6, 71), (7, 71), (20, 59), (21, 59), (22, 71)] 99 _ = _; rw [Op.lookupswitch.offset_cons, if_neg (by omega), Op.lookupswitch.offset_cons, if_neg (by omega), Op.lookupswitch.offset_cons, if_neg (by omega), Op.lookupswitch.offset_cons, if_neg (by omega), Op.lookupswitch.offset_cons, if_neg (by omega), Op.lookupswitch.offset_cons, if_neg (by omega), Op.lookupswitch.offset_nil]) rfl ?_
  refine fs_iconst (pc2 := 101) rfl rfl rfl ?_
  refine fs_iret rfl rfl (Or.inl rfl) ?_
  refine hP _ _ _ _ ⟨?_, rfl, rfl, rfl⟩
  rw [show sigOK co l = false from decide_eq_false (by omega)]
  rfl
set_option maxRecDepth 100000 in
set_option maxHeartbeats 4000000 in
theorem e_handleSignal (hA : AlOK cy z0 a0 ext) (h9 : H.1 9 ≤ 255) (hlen : H.2.2.2.2.1.length < 512) (h4 : 4 ≤ H.2.2.2.2.2.2.length) (hH : Host sh V n K a0 hb e rs H) : fl_M cy z0 ext (d + 12) m_X1_handleSignal [.ref (z0 + hb)] sh V n (fun v sh' V' n' => v = none ∧ ∃ e' rs', Host sh' V' n' K a0 hb e' rs' (ho_sig H) ∧ Fr hb a0 sh V n e sh' V' n' e') := by
  obtain ⟨⟨f1, ⟨gc, f2, f3⟩, f4, f5, f6⟩, HC, HS, ⟨wh, HW⟩, HQ, HB, HG, HI⟩ := id hH
  unfold isHo at f1
  obtain ⟨b1, b2⟩ := id HB.1
  obtain ⟨t1, t2⟩ := id HG.1
  have al0 := HQ.1
  unfold eAl at al0
  have lnG : H.2.2.2.2.2.2.length ≤ 128 := HG.2.2.1
  have lnB : H.2.2.2.2.2.1.length ≤ 128 := HB.2.2.1
  have eG : V (hb + 182) 1 = nI H.2.2.2.2.2.2.length := HG.2.2.2.2.1
  have eB : V (hb + 180) 1 = nI H.2.2.2.2.2.1.length := HB.2.2.2.2.1
  have hlt := hH.rows
  have e8 : V (hb + 182) 1 - 4 = nI (H.2.2.2.2.2.2.length - 4) := by rw [eG]; exact pk_sub (b := 4) h4
  have e13 : V hb 13 + 1 = nI (H.1 13 + 1) := by rw [HI 13 (by omega), nI_1]
  by_cases hs8 : H.2.2.2.2.2.2.length < 8
  · have es : ho_sig H = H := by unfold ho_sig; rw [if_pos (Or.inl hs8)]
    rw [es]
    refine fs_body rfl rfl (fun Ret hP => ?_)
    refine fs_aload_n (pc2 := 1) rfl rfl rfl rfl ?_
    refine fs_getr (pc2 := 4) rfl rfl rfl (by assumption) rfl ?_
    refine fs_geti (pc2 := 7) rfl rfl rfl (by assumption) rfl ?_
    refine fs_iconst (pc2 := 8) rfl rfl rfl ?_
    refine fs_isub (pc2 := 9) rfl rfl rfl ?_
    refine fs_iconst (pc2 := 10) rfl rfl rfl ?_
    refine fs_isub (pc2 := 11) rfl rfl rfl ?_
    refine fs_istore_n (pc2 := 12) rfl rfl rfl (Nat.le_of_ble_eq_true rfl) ?_
    refine fs_aload_n (pc2 := 13) rfl rfl rfl rfl ?_
    refine fs_getr (pc2 := 16) rfl rfl rfl (by assumption) rfl ?_
    refine fs_iconst (pc2 := 17) rfl rfl rfl ?_
    refine fs_callv (pc2 := 20) rfl rfl rfl rfl ⟨rfl, rfl⟩ (Nat.le_of_ble_eq_true rfl) (Nat.le_of_ble_eq_true rfl) (Nat.le_of_ble_eq_true rfl) (fs_rcv rfl (by assumption)) (e_Row_at HG) (fun v9 sh9 V9 n9 hp9 => ?_)
    obtain ⟨ea9, eb9, ec9, hv9⟩ := hp9
    cases ea9
    obtain rfl := eb9.symm
    obtain rfl := ec9.symm
    cases hv9
    refine fs_istore_n (pc2 := 21) rfl rfl rfl (Nat.le_of_ble_eq_true rfl) ?_
    refine fs_aload_n (pc2 := 22) rfl rfl rfl rfl ?_
    refine fs_getr (pc2 := 25) rfl rfl rfl (by assumption) rfl ?_
    refine fs_iconst (pc2 := 26) rfl rfl rfl ?_
    refine fs_callv (pc2 := 29) rfl rfl rfl rfl ⟨rfl, rfl⟩ (Nat.le_of_ble_eq_true rfl) (Nat.le_of_ble_eq_true rfl) (Nat.le_of_ble_eq_true rfl) (fs_rcv rfl (by assumption)) (e_Row_at HG) (fun v9 sh9 V9 n9 hp9 => ?_)
    obtain ⟨ea9, eb9, ec9, hv9⟩ := hp9
    cases ea9
    obtain rfl := eb9.symm
    obtain rfl := ec9.symm
    cases hv9
    refine fs_istore_n (pc2 := 30) rfl rfl rfl (Nat.le_of_ble_eq_true rfl) ?_
    refine fs_iload_n (pc2 := 31) rfl rfl rfl rfl ?_
    refine fs_if_lt (pc2 := 34) rfl rfl rfl (fun h31 => ?_) (fun h31 => ?_)
    · refine fs_ret rfl rfl ?_
      exact hP _ _ _ _ ⟨rfl, e, rs, hH, Fr.refl⟩
    · refine absurd ?_ h31
      rw [e8]
      obtain ⟨q, hq⟩ : ∃ q, q = H.2.2.2.2.2.2.length - 4 := ⟨_, rfl⟩
      rw [← hq]
      have hq4 : q < 4 := by omega
      rcases q with _ | _ | _ | _ | q
      · decide
      · decide
      · decide
      · decide
      · omega
  · have e88 : V (hb + 182) 1 - 4 - 4 = nI (H.2.2.2.2.2.2.length - 8) := by rw [e8]; exact pk_sub (a := H.2.2.2.2.2.2.length - 4) (b := 4) (by omega)
    obtain ⟨co, hco⟩ : ∃ co, co = H.2.2.2.2.2.2.getD 4 0 := ⟨_, rfl⟩
    obtain ⟨sid, hsid⟩ : ∃ sid, sid = H.2.2.2.2.2.2.getD 5 0 := ⟨_, rfl⟩
    have lco : co < 256 := by rw [hco]; exact (HG.byte (j := 4) (by omega)).2
    have lid : sid < 256 := by rw [hsid]; exact (HG.byte (j := 5) (by omega)).2
    have ln6 := num2_lt HG.2.2.2.1 6
    have es : ho_sig H = if sid = 0 then H else if num2 H.2.2.2.2.2.2 6 ≠ H.2.2.2.2.2.2.length - 8 ∨ sigOK co (H.2.2.2.2.2.2.length - 8) = false then hoQ (hoN H 13 (H.1 13 + 1)) (H.2.2.2.2.1 ++ [[1, sid, 2, 0] ++ two 0]) else ho_sigd H co sid := by
      unfold ho_sig
      rw [← hco, ← hsid]
      by_cases q : sid = 0
      · rw [if_pos (Or.inr q), if_pos q]
      · rw [if_neg (by omega), if_neg q]
    rw [es]
    refine fs_body rfl rfl (fun Ret hP => ?_)
    refine fs_aload_n (pc2 := 1) rfl rfl rfl rfl ?_
    refine fs_getr (pc2 := 4) rfl rfl rfl (by assumption) rfl ?_
    refine fs_geti (pc2 := 7) rfl rfl rfl (by assumption) rfl ?_
    refine fs_iconst (pc2 := 8) rfl rfl rfl ?_
    refine fs_isub (pc2 := 9) rfl rfl rfl ?_
    refine fs_iconst (pc2 := 10) rfl rfl rfl ?_
    refine fs_isub (pc2 := 11) rfl rfl rfl ?_
    refine fs_istore_n (pc2 := 12) rfl rfl rfl (Nat.le_of_ble_eq_true rfl) ?_
    refine fs_aload_n (pc2 := 13) rfl rfl rfl rfl ?_
    refine fs_getr (pc2 := 16) rfl rfl rfl (by assumption) rfl ?_
    refine fs_iconst (pc2 := 17) rfl rfl rfl ?_
    refine fs_callv (pc2 := 20) rfl rfl rfl rfl ⟨rfl, rfl⟩ (Nat.le_of_ble_eq_true rfl) (Nat.le_of_ble_eq_true rfl) (Nat.le_of_ble_eq_true rfl) (fs_rcv rfl (by assumption)) (e_Row_atN (j := 4) HG (by omega)) (fun v9 sh9 V9 n9 hp9 => ?_)
    obtain ⟨ea9, eb9, ec9, hv9⟩ := hp9
    cases ea9
    obtain rfl := eb9.symm
    obtain rfl := ec9.symm
    cases hv9
    rw [← hco]
    refine fs_istore_n (pc2 := 21) rfl rfl rfl (Nat.le_of_ble_eq_true rfl) ?_
    refine fs_aload_n (pc2 := 22) rfl rfl rfl rfl ?_
    refine fs_getr (pc2 := 25) rfl rfl rfl (by assumption) rfl ?_
    refine fs_iconst (pc2 := 26) rfl rfl rfl ?_
    refine fs_callv (pc2 := 29) rfl rfl rfl rfl ⟨rfl, rfl⟩ (Nat.le_of_ble_eq_true rfl) (Nat.le_of_ble_eq_true rfl) (Nat.le_of_ble_eq_true rfl) (fs_rcv rfl (by assumption)) (e_Row_atN (j := 5) HG (by omega)) (fun v9 sh9 V9 n9 hp9 => ?_)
    obtain ⟨ea9, eb9, ec9, hv9⟩ := hp9
    cases ea9
    obtain rfl := eb9.symm
    obtain rfl := ec9.symm
    cases hv9
    rw [← hsid]
    refine fs_istore_n (pc2 := 30) rfl rfl rfl (Nat.le_of_ble_eq_true rfl) ?_
    refine fs_iload_n (pc2 := 31) rfl rfl rfl rfl ?_
    refine fs_if_lt (pc2 := 34) rfl rfl rfl (fun h31 => ?_) (fun h31 => ?_)
    · exact absurd (by rw [e88] at h31; exact h31) (nI_pos (by omega))
    · refine fs_iload_n (pc2 := 35) rfl rfl rfl rfl ?_
      refine fs_if_ne (pc2 := 38) rfl rfl rfl (fun h35 => ?_) (fun h35 => ?_)
      · have k35 : sid ≠ 0 := c_ne h35 rfl rfl
        rw [if_neg k35] at hP
        refine fs_aload_n (pc2 := 40) rfl rfl rfl rfl ?_
        refine fs_getr (pc2 := 43) rfl rfl rfl (by assumption) rfl ?_
        refine fs_bipush (pc2 := 45) rfl rfl rfl ?_
        refine fs_callv (pc2 := 48) rfl rfl rfl rfl ⟨rfl, rfl⟩ (Nat.le_of_ble_eq_true rfl) (Nat.le_of_ble_eq_true rfl) (Nat.le_of_ble_eq_true rfl) (fs_rcv rfl (by assumption)) (e_Row_numberAt (j := 6) (by decide) HG) (fun v9 sh9 V9 n9 hp9 => ?_)
        obtain ⟨ea9, eb9, ec9, hv9⟩ := hp9
        cases ea9
        obtain rfl := eb9.symm
        obtain rfl := ec9.symm
        cases hv9
        refine fs_iload_n (pc2 := 49) rfl rfl rfl rfl ?_
        refine fs_icmp_ne (pc2 := 52) rfl rfl rfl (fun h49 => ?_) (fun h49 => ?_)
        · have k49 : num2 H.2.2.2.2.2.2 6 ≠ H.2.2.2.2.2.2.length - 8 := c_ne h49 rfl e88
          rw [if_pos (Or.inl k49)] at hP
          refine fs_aload_n (pc2 := 61) rfl rfl rfl rfl ?_
          first | refine fs_dup_r (pc2 := 62) rfl rfl rfl ?_ | refine fs_dup_i (pc2 := 62) rfl rfl rfl ?_
          refine fs_geti (pc2 := 65) rfl rfl rfl (by assumption) rfl ?_
          refine fs_iconst (pc2 := 66) rfl rfl rfl ?_
          refine fs_iadd (pc2 := 67) rfl rfl rfl ?_
          refine fs_puti (pc2 := 70) rfl rfl rfl (by assumption) rfl True.intro ?_
          refine fs_aload_n (pc2 := 71) rfl rfl rfl rfl ?_
          refine fs_iconst (pc2 := 72) rfl rfl rfl ?_
          refine fs_iload_n (pc2 := 73) rfl rfl rfl rfl ?_
          refine fs_iconst (pc2 := 74) rfl rfl rfl ?_
          refine fs_callv (pc2 := 77) rfl rfl rfl rfl ⟨rfl, rfl⟩ (Nat.le_of_ble_eq_true rfl) (Nat.le_of_ble_eq_true rfl) (Nat.le_of_ble_eq_true rfl) (fs_rcv rfl (by assumption)) (by rw [e13]; exact e_addSignal (co := 1) (k := 1) hA (by decide) lid (by decide) (by exact hlen) (hH.putN 13 (H.1 13 + 1))) (fun v9 sh9 V9 n9 hp9 => ?_)
          obtain ⟨ea9, e1x, k0, frs⟩ := hp9
          cases ea9
          obtain ⟨z0a, z0b⟩ := id (k0.lastRow rfl).1.1
          have fx0 := k0.1.1
          unfold isHo at fx0
          have frs := Fr.pre (fun a ha => by rw [up2_o (by omega)]) frs
          refine fs_iconst (pc2 := 78) rfl rfl rfl ?_
          refine fs_callv (pc2 := 81) rfl rfl rfl rfl ⟨rfl, rfl⟩ (Nat.le_of_ble_eq_true rfl) (Nat.le_of_ble_eq_true rfl) (Nat.le_of_ble_eq_true rfl) (fs_rcv rfl (by assumption)) (by exact e_Row_addNumber (by decide : 0 < 65536) (k0.lastRow rfl).1 (by simp [two])) (fun v9 sh9 V9 n9 hp9 => ?_)
          obtain ⟨ea9, eb9, ec9, rr0, ff0⟩ := hp9
          cases ea9
          obtain rfl := eb9.symm
          obtain rfl := ec9.symm
          have k1 := k0.last rfl hlt rr0 ff0
          have fr1 := frs.row (Nat.le_refl _) ff0
          obtain ⟨z1, zz1⟩ := id (k1.lastRow rfl).1.1
          have fx1 := k1.1.1
          unfold isHo at fx1
          refine fs_ret rfl rfl ?_
          exact hP _ _ _ _ ⟨rfl, e1x, _, k1, fr1⟩
        · have k49 : num2 H.2.2.2.2.2.2 6 = H.2.2.2.2.2.2.length - 8 := c_eq h49 rfl e88
          refine fs_iload_n (pc2 := 53) rfl rfl rfl rfl ?_
          refine fs_iload_n (pc2 := 54) rfl rfl rfl rfl ?_
          refine fs_calls (pc2 := 57) rfl rfl rfl rfl rfl rfl ⟨rfl, rfl⟩ (Nat.le_of_ble_eq_true rfl) (Nat.le_of_ble_eq_true rfl) (Nat.le_of_ble_eq_true rfl) (by rw [e88]; exact e_isSignal (by omega) (by omega)) (fun v9 sh9 V9 n9 hp9 => ?_)
          obtain ⟨ea9, eb9, ec9, hv9⟩ := hp9
          cases ea9
          obtain rfl := eb9.symm
          obtain rfl := ec9.symm
          cases hv9
          refine fs_if_ne (pc2 := 60) rfl rfl rfl (fun h57 => ?_) (fun h57 => ?_)
          · have k57 : sigOK co (H.2.2.2.2.2.2.length - 8) = true := by
              cases hb2 : sigOK co (H.2.2.2.2.2.2.length - 8) with
              | true => rfl
              | false => rw [hb2] at h57; exact absurd rfl h57
            rw [if_neg (by rw [k57]; simp [k49])] at hP
            refine fs_iload_n (pc2 := 83) rfl rfl rfl rfl ?_
            by_cases q6 : co = 6
            · refine fs_lsw (off := 72) (pc2 := 155) rfl rfl (by rw [q6]; rfl) rfl ?_
              unfold ho_sigd at hP
              rw [if_neg (by omega), if_neg (by omega), if_neg (by omega), if_pos q6] at hP
              refine fs_aload_n (pc2 := 156) rfl rfl rfl rfl ?_
              refine fs_iload_n (pc2 := 157) rfl rfl rfl rfl ?_
              refine fs_callv (pc2 := 160) rfl rfl rfl rfl ⟨rfl, rfl⟩ (Nat.le_of_ble_eq_true rfl) (Nat.le_of_ble_eq_true rfl) (Nat.le_of_ble_eq_true rfl) (fs_rcv rfl (by assumption)) (e_onLeave hA hlen lid hH) (fun v9 sh9 V9 n9 hp9 => ?_)
              have hP9 := hP _ _ _ _ hp9
              obtain ⟨ea9, eb9⟩ := hp9
              cases ea9
              refine fs_goto rfl rfl ?_
              refine fs_ret rfl rfl ?_
              exact hP9
            by_cases q7 : co = 7
            · refine fs_lsw (off := 80) (pc2 := 163) rfl rfl (by rw [q7]; rfl) rfl ?_
              unfold ho_sigd at hP
              rw [if_neg (by omega), if_neg (by omega), if_neg (by omega), if_neg (by omega), if_pos q7] at hP
              refine fs_aload_n (pc2 := 164) rfl rfl rfl rfl ?_
              refine fs_callv (pc2 := 167) rfl rfl rfl rfl ⟨rfl, rfl⟩ (Nat.le_of_ble_eq_true rfl) (Nat.le_of_ble_eq_true rfl) (Nat.le_of_ble_eq_true rfl) (fs_rcv rfl (by assumption)) (KA_KB (e_onLeft hH)) (fun v9 sh9 V9 n9 hp9 => ?_)
              have hP9 := hP _ _ _ _ hp9
              obtain ⟨ea9, eb9⟩ := hp9
              cases ea9
              refine fs_goto rfl rfl ?_
              refine fs_ret rfl rfl ?_
              exact hP9
            by_cases q20 : co = 20
            · refine fs_lsw (off := 49) (pc2 := 132) rfl rfl (by rw [q20]; rfl) rfl ?_
              unfold ho_sigd at hP
              rw [if_pos q20] at hP
              refine fs_aload_n (pc2 := 133) rfl rfl rfl rfl ?_
              refine fs_iload_n (pc2 := 134) rfl rfl rfl rfl ?_
              refine fs_callv (pc2 := 137) rfl rfl rfl rfl ⟨rfl, rfl⟩ (Nat.le_of_ble_eq_true rfl) (Nat.le_of_ble_eq_true rfl) (Nat.le_of_ble_eq_true rfl) (fs_rcv rfl (by assumption)) (e_onRequest hH hA hlen lid) (fun v9 sh9 V9 n9 hp9 => ?_)
              have hP9 := hP _ _ _ _ hp9
              obtain ⟨ea9, eb9⟩ := hp9
              cases ea9
              refine fs_goto rfl rfl ?_
              refine fs_ret rfl rfl ?_
              exact hP9
            by_cases q21 : co = 21
            · refine fs_lsw (off := 57) (pc2 := 140) rfl rfl (by rw [q21]; rfl) rfl ?_
              unfold ho_sigd at hP
              rw [if_neg (by omega), if_pos q21] at hP
              refine fs_aload_n (pc2 := 141) rfl rfl rfl rfl ?_
              refine fs_iload_n (pc2 := 142) rfl rfl rfl rfl ?_
              refine fs_callv (pc2 := 145) rfl rfl rfl rfl ⟨rfl, rfl⟩ (Nat.le_of_ble_eq_true rfl) (Nat.le_of_ble_eq_true rfl) (Nat.le_of_ble_eq_true rfl) (fs_rcv rfl (by assumption)) (KA_KB (e_onAnswer lid hH)) (fun v9 sh9 V9 n9 hp9 => ?_)
              have hP9 := hP _ _ _ _ hp9
              obtain ⟨ea9, eb9⟩ := hp9
              cases ea9
              refine fs_goto rfl rfl ?_
              refine fs_ret rfl rfl ?_
              exact hP9
            by_cases q22 : co = 22
            · refine fs_lsw (off := 65) (pc2 := 148) rfl rfl (by rw [q22]; rfl) rfl ?_
              unfold ho_sigd at hP
              rw [if_neg (by omega), if_neg (by omega), if_pos q22] at hP
              refine fs_aload_n (pc2 := 149) rfl rfl rfl rfl ?_
              refine fs_callv (pc2 := 152) rfl rfl rfl rfl ⟨rfl, rfl⟩ (Nat.le_of_ble_eq_true rfl) (Nat.le_of_ble_eq_true rfl) (Nat.le_of_ble_eq_true rfl) (fs_rcv rfl (by assumption)) (e_onCredit hA h9 hlen hH) (fun v9 sh9 V9 n9 hp9 => ?_)
              have hP9 := hP _ _ _ _ hp9
              obtain ⟨ea9, eb9⟩ := hp9
              cases ea9
              refine fs_goto rfl rfl ?_
              refine fs_ret rfl rfl ?_
              exact hP9
            refine fs_lsw (off := 87) (pc2 := 170) rfl rfl (by rw [nI_toInt (by omega)]; show Op.lookupswitch.offset [(6, 72), (7, 80), (20, 49), (21, 57), (22, 65)] 87 _ = _; rw [Op.lookupswitch.offset_cons, if_neg (by omega), Op.lookupswitch.offset_cons, if_neg (by omega), Op.lookupswitch.offset_cons, if_neg (by omega), Op.lookupswitch.offset_cons, if_neg (by omega), Op.lookupswitch.offset_cons, if_neg (by omega), Op.lookupswitch.offset_nil]) rfl ?_
            unfold ho_sigd at hP
            rw [if_neg (by omega), if_neg (by omega), if_neg (by omega), if_neg (by omega), if_neg (by omega)] at hP
            refine fs_aload_n (pc2 := 171) rfl rfl rfl rfl ?_
            refine fs_iload_n (pc2 := 172) rfl rfl rfl rfl ?_
            refine fs_callv (pc2 := 175) rfl rfl rfl rfl ⟨rfl, rfl⟩ (Nat.le_of_ble_eq_true rfl) (Nat.le_of_ble_eq_true rfl) (Nat.le_of_ble_eq_true rfl) (fs_rcv rfl (by assumption)) (KA_KB (e_onReject lid hH)) (fun v9 sh9 V9 n9 hp9 => ?_)
            have hP9 := hP _ _ _ _ hp9
            obtain ⟨ea9, eb9⟩ := hp9
            cases ea9
            refine fs_ret rfl rfl ?_
            exact hP9
          · have k57 := bI_0.mp h57
            rw [if_pos (Or.inr k57)] at hP
            refine fs_aload_n (pc2 := 61) rfl rfl rfl rfl ?_
            first | refine fs_dup_r (pc2 := 62) rfl rfl rfl ?_ | refine fs_dup_i (pc2 := 62) rfl rfl rfl ?_
            refine fs_geti (pc2 := 65) rfl rfl rfl (by assumption) rfl ?_
            refine fs_iconst (pc2 := 66) rfl rfl rfl ?_
            refine fs_iadd (pc2 := 67) rfl rfl rfl ?_
            refine fs_puti (pc2 := 70) rfl rfl rfl (by assumption) rfl True.intro ?_
            refine fs_aload_n (pc2 := 71) rfl rfl rfl rfl ?_
            refine fs_iconst (pc2 := 72) rfl rfl rfl ?_
            refine fs_iload_n (pc2 := 73) rfl rfl rfl rfl ?_
            refine fs_iconst (pc2 := 74) rfl rfl rfl ?_
            refine fs_callv (pc2 := 77) rfl rfl rfl rfl ⟨rfl, rfl⟩ (Nat.le_of_ble_eq_true rfl) (Nat.le_of_ble_eq_true rfl) (Nat.le_of_ble_eq_true rfl) (fs_rcv rfl (by assumption)) (by rw [e13]; exact e_addSignal (co := 1) (k := 1) hA (by decide) lid (by decide) (by exact hlen) (hH.putN 13 (H.1 13 + 1))) (fun v9 sh9 V9 n9 hp9 => ?_)
            obtain ⟨ea9, e1x, k0, frs⟩ := hp9
            cases ea9
            obtain ⟨z0a, z0b⟩ := id (k0.lastRow rfl).1.1
            have fx0 := k0.1.1
            unfold isHo at fx0
            have frs := Fr.pre (fun a ha => by rw [up2_o (by omega)]) frs
            refine fs_iconst (pc2 := 78) rfl rfl rfl ?_
            refine fs_callv (pc2 := 81) rfl rfl rfl rfl ⟨rfl, rfl⟩ (Nat.le_of_ble_eq_true rfl) (Nat.le_of_ble_eq_true rfl) (Nat.le_of_ble_eq_true rfl) (fs_rcv rfl (by assumption)) (by exact e_Row_addNumber (by decide : 0 < 65536) (k0.lastRow rfl).1 (by simp [two])) (fun v9 sh9 V9 n9 hp9 => ?_)
            obtain ⟨ea9, eb9, ec9, rr0, ff0⟩ := hp9
            cases ea9
            obtain rfl := eb9.symm
            obtain rfl := ec9.symm
            have k1 := k0.last rfl hlt rr0 ff0
            have fr1 := frs.row (Nat.le_refl _) ff0
            obtain ⟨z1, zz1⟩ := id (k1.lastRow rfl).1.1
            have fx1 := k1.1.1
            unfold isHo at fx1
            refine fs_ret rfl rfl ?_
            exact hP _ _ _ _ ⟨rfl, e1x, _, k1, fr1⟩
      · have k35 : sid = 0 := c_eq h35 rfl rfl
        rw [if_pos k35] at hP
        refine fs_ret rfl rfl ?_
        exact hP _ _ _ _ ⟨rfl, e, rs, hH, Fr.refl⟩
set_option maxRecDepth 100000 in
set_option maxHeartbeats 4000000 in
theorem e_handleSegment (hA : AlOK cy z0 a0 ext) (h9 : H.1 9 ≤ 255) (hlen : H.2.2.2.2.1.length < 512) (h4 : 4 ≤ H.2.2.2.2.2.2.length) (hinv : ∀ j, j < 4 → (H.2.1 j).1 3 ≤ 100 ∧ ∀ q, (H.2.1 j).2.1 = some q → q ≤ 100) {nb : Nat} (hnb : nb < 65536) (hH : Host sh V n K a0 hb e rs H) : fl_M cy z0 ext (d + 11) m_X1_handleSegment [.ref (z0 + hb), .int (nI nb)] sh V n (fun v sh' V' n' => v = none ∧ ∃ e' rs', Host sh' V' n' K a0 hb e' rs' (ho_seg H nb) ∧ Fr hb a0 sh V n e sh' V' n' e') := by
  obtain ⟨⟨f1, ⟨gc, f2, f3⟩, f4, f5, f6⟩, HC, HS, ⟨wh, HW⟩, HQ, HB, HG, HI⟩ := id hH
  unfold isHo at f1
  obtain ⟨b1, b2⟩ := id HB.1
  obtain ⟨t1, t2⟩ := id HG.1
  have al0 := HQ.1
  unfold eAl at al0
  have lnG : H.2.2.2.2.2.2.length ≤ 128 := HG.2.2.1
  have lnB : H.2.2.2.2.2.1.length ≤ 128 := HB.2.2.1
  have eG : V (hb + 182) 1 = nI H.2.2.2.2.2.2.length := HG.2.2.2.2.1
  have eB : V (hb + 180) 1 = nI H.2.2.2.2.2.1.length := HB.2.2.2.2.1
  have e12 : V hb 12 + 1 = nI (H.1 12 + 1) := by rw [HI 12 (by omega), nI_1]
  refine fs_body rfl rfl (fun Ret hP => ?_)
  refine fs_iload_n (pc2 := 1) rfl rfl rfl rfl ?_
  refine fs_calls (pc2 := 4) rfl rfl rfl rfl rfl rfl ⟨rfl, rfl⟩ (Nat.le_of_ble_eq_true rfl) (Nat.le_of_ble_eq_true rfl) (Nat.le_of_ble_eq_true rfl) (e_isChannel (u := nI nb)) (fun v9 sh9 V9 n9 hp9 => ?_)
  obtain ⟨ea9, eb9, ec9, hv9⟩ := hp9
  cases ea9
  obtain rfl := eb9.symm
  obtain rfl := ec9.symm
  cases hv9
  refine fs_if_eq (pc2 := 7) rfl rfl rfl (fun h4x => ?_) (fun h4x => ?_)
  · rw [isChB_nI (by omega)] at h4x
    have k4 : ¬ (64 ≤ nb ∧ nb < 68) := of_decide_eq_false (bI_0.mp h4x)
    refine fs_aload_n (pc2 := 24) rfl rfl rfl rfl ?_
    first | refine fs_dup_r (pc2 := 25) rfl rfl rfl ?_ | refine fs_dup_i (pc2 := 25) rfl rfl rfl ?_
    refine fs_geti (pc2 := 28) rfl rfl rfl (by assumption) rfl ?_
    refine fs_iconst (pc2 := 29) rfl rfl rfl ?_
    refine fs_iadd (pc2 := 30) rfl rfl rfl ?_
    refine fs_puti (pc2 := 33) rfl rfl rfl (by assumption) rfl True.intro ?_
    refine fs_ret rfl rfl ?_
    refine hP _ _ _ _ ⟨rfl, e, rs, ?_, Fr.same (fun a ha => up2_o (by omega))⟩
    unfold ho_seg
    rw [if_neg (by omega)]
    rw [e12]
    exact hH.putN 12 _
  · rw [isChB_nI (by omega)] at h4x
    have k4 : 64 ≤ nb ∧ nb < 68 := by
      by_cases q : 64 ≤ nb ∧ nb < 68
      · exact q
      · rw [decide_eq_false q] at h4x; exact absurd rfl h4x
    obtain ⟨k, ek⟩ : ∃ k, k = nb - 64 := ⟨_, rfl⟩
    have hk4 : k < 4 := by omega
    have es : nI nb - 64 = nI k := by rw [ek]; exact pk_sub (b := 64) (by omega)
    have i1 : vp_in (nI nb - 64) 4 := by rw [es]; exact vp_in_nI hk4 (by decide)
    have i2 : gc (nI nb - 64).toNatClampNeg = some (hb + 2 + 19 * k) := by rw [es, nI_clamp (by omega)]; exact f3 k hk4
    have n0 := (HC k hk4).2
    have C0 := (HC k hk4).1
    have s0 := C0.1
    unfold isChan at s0
    obtain ⟨e1, l1⟩ := C0.i 1 (by omega)
    refine fs_aload_n (pc2 := 8) rfl rfl rfl rfl ?_
    refine fs_getr (pc2 := 11) rfl rfl rfl (by assumption) rfl ?_
    refine fs_iload_n (pc2 := 12) rfl rfl rfl rfl ?_
    refine fs_bipush (pc2 := 14) rfl rfl rfl ?_
    refine fs_isub (pc2 := 15) rfl rfl rfl ?_
    refine fs_aald (pc2 := 16) rfl rfl rfl (by assumption) i1 i2 ?_
    refine fs_geti (pc2 := 19) rfl rfl rfl (by assumption) rfl ?_
    refine fs_iconst (pc2 := 20) rfl rfl rfl ?_
    refine fs_icmp_eq (pc2 := 23) rfl rfl rfl (fun h20 => ?_) (fun h20 => ?_)
    · have k20 : (H.2.1 k).1 1 = 2 := c_eq h20 e1 rfl
      refine fs_aload_n (pc2 := 35) rfl rfl rfl rfl ?_
      refine fs_getr (pc2 := 38) rfl rfl rfl (by assumption) rfl ?_
      refine fs_iload_n (pc2 := 39) rfl rfl rfl rfl ?_
      refine fs_bipush (pc2 := 41) rfl rfl rfl ?_
      refine fs_isub (pc2 := 42) rfl rfl rfl ?_
      refine fs_aald (pc2 := 43) rfl rfl rfl (by assumption) i1 i2 ?_
      refine fs_astore_n (pc2 := 44) rfl rfl rfl (Nat.le_of_ble_eq_true rfl) ?_
      refine fs_aload_n (pc2 := 45) rfl rfl rfl rfl ?_
      refine fs_aload_n (pc2 := 46) rfl rfl rfl rfl ?_
      refine fs_getr (pc2 := 49) rfl rfl rfl (by assumption) rfl ?_
      refine fs_callv (pc2 := 52) rfl rfl rfl rfl ⟨rfl, rfl⟩ (Nat.le_of_ble_eq_true rfl) (Nat.le_of_ble_eq_true rfl) (Nat.le_of_ble_eq_true rfl) (fs_rcv rfl (by assumption)) (e_Chan_readSegment HG (by omega) h4 (hinv k hk4).1 (hinv k hk4).2 C0) (fun v9 sh9 V9 n9 hp9 => ?_)
      obtain ⟨ea9, eb9, ec9, C1, hf1⟩ := hp9
      cases ea9
      obtain rfl := eb9.symm
      obtain rfl := ec9.symm
      have hH1 := hH.putC hk4 C1 (by rw [ch_read_0 _ _ 0 (by decide)]; exact n0) hf1
      refine fs_if_ne (pc2 := 55) rfl rfl rfl (fun h52 => ?_) (fun h52 => ?_)
      · have k52 : (ch_read (H.2.1 k) H.2.2.2.2.2.2).1 = true := by
          cases hb2 : (ch_read (H.2.1 k) H.2.2.2.2.2.2).1 with
          | true => rfl
          | false => rw [hb2] at h52; exact absurd rfl h52
        refine fs_ret rfl rfl ?_
        refine hP _ _ _ _ ⟨rfl, e, rs, ?_, Fr.same (fun a ha => hf1 a (by omega))⟩
        unfold ho_seg
        rw [← ek, if_pos ⟨k4, k20⟩, if_pos k52]
        exact hH1
      · have k52 := bI_0.mp h52
        refine fs_aload_n (pc2 := 56) rfl rfl rfl rfl ?_
        refine fs_aload_n (pc2 := 57) rfl rfl rfl rfl ?_
        refine fs_callv (pc2 := 60) rfl rfl rfl rfl ⟨rfl, rfl⟩ (Nat.le_of_ble_eq_true rfl) (Nat.le_of_ble_eq_true rfl) (Nat.le_of_ble_eq_true rfl) (fs_rcv rfl (by assumption)) (e_beginLeaving (k := k) hA (by exact h9) (by exact hlen) hk4 hH1) (fun v9 sh9 V9 n9 hp9 => ?_)
        obtain ⟨ea9, e1x, rsx, kx, frx⟩ := hp9
        cases ea9
        refine fs_ret rfl rfl ?_
        refine hP _ _ _ _ ⟨rfl, e1x, rsx, ?_, Fr.pre (fun a ha => hf1 a (by omega)) frx⟩
        unfold ho_seg
        rw [← ek, if_pos ⟨k4, k20⟩, if_neg (by rw [k52]; decide)]
        exact kx
    · have k20 : (H.2.1 k).1 1 ≠ 2 := c_ne h20 e1 rfl
      refine fs_aload_n (pc2 := 24) rfl rfl rfl rfl ?_
      first | refine fs_dup_r (pc2 := 25) rfl rfl rfl ?_ | refine fs_dup_i (pc2 := 25) rfl rfl rfl ?_
      refine fs_geti (pc2 := 28) rfl rfl rfl (by assumption) rfl ?_
      refine fs_iconst (pc2 := 29) rfl rfl rfl ?_
      refine fs_iadd (pc2 := 30) rfl rfl rfl ?_
      refine fs_puti (pc2 := 33) rfl rfl rfl (by assumption) rfl True.intro ?_
      refine fs_ret rfl rfl ?_
      refine hP _ _ _ _ ⟨rfl, e, rs, ?_, Fr.same (fun a ha => up2_o (by omega))⟩
      unfold ho_seg
      rw [if_neg (by rw [← ek]; intro q; exact k20 q.2)]
      rw [e12]
      exact hH.putN 12 _
set_option maxRecDepth 100000 in
set_option maxHeartbeats 4000000 in
theorem e_handleUnit (hA : AlOK cy z0 a0 ext) (h9 : H.1 9 ≤ 255) (hlen : H.2.2.2.2.1.length < 512) (h4 : 4 ≤ H.2.2.2.2.2.2.length) (hinv : ∀ j, j < 4 → (H.2.1 j).1 3 ≤ 100 ∧ ∀ q, (H.2.1 j).2.1 = some q → q ≤ 100) (hH : Host sh V n K a0 hb e rs H) : fl_M cy z0 ext (d + 13) m_X1_handleUnit [.ref (z0 + hb)] sh V n (fun v sh' V' n' => v = none ∧ ∃ e' rs', Host sh' V' n' K a0 hb e' rs' (ho_unitH H) ∧ Fr hb a0 sh V n e sh' V' n' e') := by
  obtain ⟨⟨f1, ⟨gc, f2, f3⟩, f4, f5, f6⟩, HC, HS, ⟨wh, HW⟩, HQ, HB, HG, HI⟩ := id hH
  unfold isHo at f1
  obtain ⟨b1, b2⟩ := id HB.1
  obtain ⟨t1, t2⟩ := id HG.1
  have al0 := HQ.1
  unfold eAl at al0
  have lnG : H.2.2.2.2.2.2.length ≤ 128 := HG.2.2.1
  have lnB : H.2.2.2.2.2.1.length ≤ 128 := HB.2.2.1
  have eG : V (hb + 182) 1 = nI H.2.2.2.2.2.2.length := HG.2.2.2.2.1
  have eB : V (hb + 180) 1 = nI H.2.2.2.2.2.1.length := HB.2.2.2.2.1
  have e11 : V hb 11 + 1 = nI (H.1 11 + 1) := by rw [HI 11 (by omega), nI_1]
  have ln2 := num2_lt HG.2.2.2.1 2
  have hH1 := hH.putN 11 (H.1 11 + 1)
  refine fs_body rfl rfl (fun Ret hP => ?_)
  refine fs_aload_n (pc2 := 1) rfl rfl rfl rfl ?_
  first | refine fs_dup_r (pc2 := 2) rfl rfl rfl ?_ | refine fs_dup_i (pc2 := 2) rfl rfl rfl ?_
  refine fs_geti (pc2 := 5) rfl rfl rfl (by assumption) rfl ?_
  refine fs_iconst (pc2 := 6) rfl rfl rfl ?_
  refine fs_iadd (pc2 := 7) rfl rfl rfl ?_
  refine fs_puti (pc2 := 10) rfl rfl rfl (by assumption) rfl True.intro ?_
  refine fs_aload_n (pc2 := 11) rfl rfl rfl rfl ?_
  refine fs_getr (pc2 := 14) rfl rfl rfl (by assumption) rfl ?_
  refine fs_iconst (pc2 := 15) rfl rfl rfl ?_
  refine fs_callv (pc2 := 18) rfl rfl rfl rfl ⟨rfl, rfl⟩ (Nat.le_of_ble_eq_true rfl) (Nat.le_of_ble_eq_true rfl) (Nat.le_of_ble_eq_true rfl) (fs_rcv rfl (by assumption)) (by rw [e11]; exact e_Row_numberAt (j := 2) (by decide) hH1.2.2.2.2.2.2.1) (fun v9 sh9 V9 n9 hp9 => ?_)
  obtain ⟨ea9, eb9, ec9, hv9⟩ := hp9
  cases ea9
  obtain rfl := eb9.symm
  obtain rfl := ec9.symm
  obtain rfl := hv9.symm
  refine fs_istore_n (pc2 := 19) rfl rfl rfl (Nat.le_of_ble_eq_true rfl) ?_
  refine fs_iload_n (pc2 := 20) rfl rfl rfl rfl ?_
  refine fs_iconst (pc2 := 21) rfl rfl rfl ?_
  refine fs_icmp_ne (pc2 := 24) rfl rfl rfl (fun h21 => ?_) (fun h21 => ?_)
  · have k21 : num2 H.2.2.2.2.2.2 2 ≠ 5 := c_ne h21 rfl rfl
    refine fs_aload_n (pc2 := 32) rfl rfl rfl rfl ?_
    refine fs_iload_n (pc2 := 33) rfl rfl rfl rfl ?_
    refine fs_callv (pc2 := 36) rfl rfl rfl rfl ⟨rfl, rfl⟩ (Nat.le_of_ble_eq_true rfl) (Nat.le_of_ble_eq_true rfl) (Nat.le_of_ble_eq_true rfl) (fs_rcv rfl (by assumption)) (by exact e_handleSegment hA (by exact h9) (by exact hlen) (by exact h4) (by exact hinv) ln2 hH1) (fun v9 sh9 V9 n9 hp9 => ?_)
    obtain ⟨ea9, e1x, rsx, kx, frx⟩ := hp9
    cases ea9
    have fx := kx.1.1
    unfold isHo at fx
    obtain ⟨g1x, g2x⟩ := id kx.2.2.2.2.2.2.1.1
    refine fs_aload_n (pc2 := 37) rfl rfl rfl rfl ?_
    refine fs_getr (pc2 := 40) rfl rfl rfl (by assumption) rfl ?_
    refine fs_callv (pc2 := 43) rfl rfl rfl rfl ⟨rfl, rfl⟩ (Nat.le_of_ble_eq_true rfl) (Nat.le_of_ble_eq_true rfl) (Nat.le_of_ble_eq_true rfl) (fs_rcv rfl (by assumption)) (e_Row_clear kx.2.2.2.2.2.2.1) (fun v9 sh9 V9 n9 hp9 => ?_)
    obtain ⟨ea9, eb9, ec9, hr2, hf2⟩ := hp9
    cases ea9
    obtain rfl := eb9.symm
    obtain rfl := ec9.symm
    have ky := kx.putG hr2 (fun a a1 a2 => hf2 a a1)
    refine fs_ret rfl rfl ?_
    refine hP _ _ _ _ ⟨rfl, e1x, rsx, ?_, (Fr.pre (fun a ha => up2_o (by omega)) frx).post (fun a ha => hf2 a (by omega))⟩
    unfold ho_unitH
    rw [if_neg k21]
    exact ky
  · have k21 : num2 H.2.2.2.2.2.2 2 = 5 := c_eq h21 rfl rfl
    refine fs_aload_n (pc2 := 25) rfl rfl rfl rfl ?_
    refine fs_callv (pc2 := 28) rfl rfl rfl rfl ⟨rfl, rfl⟩ (Nat.le_of_ble_eq_true rfl) (Nat.le_of_ble_eq_true rfl) (Nat.le_of_ble_eq_true rfl) (fs_rcv rfl (by assumption)) (by exact e_handleSignal hA (by exact h9) (by exact hlen) (by exact h4) hH1) (fun v9 sh9 V9 n9 hp9 => ?_)
    obtain ⟨ea9, e1x, rsx, kx, frx⟩ := hp9
    cases ea9
    have fx := kx.1.1
    unfold isHo at fx
    obtain ⟨g1x, g2x⟩ := id kx.2.2.2.2.2.2.1.1
    refine fs_goto rfl rfl ?_
    refine fs_aload_n (pc2 := 37) rfl rfl rfl rfl ?_
    refine fs_getr (pc2 := 40) rfl rfl rfl (by assumption) rfl ?_
    refine fs_callv (pc2 := 43) rfl rfl rfl rfl ⟨rfl, rfl⟩ (Nat.le_of_ble_eq_true rfl) (Nat.le_of_ble_eq_true rfl) (Nat.le_of_ble_eq_true rfl) (fs_rcv rfl (by assumption)) (e_Row_clear kx.2.2.2.2.2.2.1) (fun v9 sh9 V9 n9 hp9 => ?_)
    obtain ⟨ea9, eb9, ec9, hr2, hf2⟩ := hp9
    cases ea9
    obtain rfl := eb9.symm
    obtain rfl := ec9.symm
    have ky := kx.putG hr2 (fun a a1 a2 => hf2 a a1)
    refine fs_ret rfl rfl ?_
    refine hP _ _ _ _ ⟨rfl, e1x, rsx, ?_, (Fr.pre (fun a ha => up2_o (by omega)) frx).post (fun a ha => hf2 a (by omega))⟩
    unfold ho_unitH
    rw [if_pos k21]
    exact ky
end HANDLE
