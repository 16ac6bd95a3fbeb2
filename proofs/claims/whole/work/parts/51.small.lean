/-! small methods of the model -/
def isInB (v a b : Int32) : Bool := decide (¬ v < a ∧ v ≤ b)
def isHostM (u : Int32) : Bool := decide (u = 0 ∨ u = 1)
def HD (V : fl_V) (mb : Nat) (xs : List Nat) : Prop := ∀ j, j < 32 → V (mb + 44) j = nI (xs.getD j 0) ∧ xs.getD j 0 < 256
def MM (V : fl_V) (mb : Nat) (xs : List Nat) : Prop := V mb 47 = nI xs.length ∧ xs.length ≤ 16 ∧ ML (V (mb + 45)) 0 xs
theorem nI_255 {k : Nat} (h : k < 2 ^ 32) : nI k &&& 255 = nI (k % 256) := pk_andN h 8 rfl
section SMALL
variable {cy : Nat → ClassId} {z0 : Nat} {ext : Nat → Nat → List Value → ev_H → Nat → ev_P → Prop} {d : Nat} {sh : fl_S} {V : fl_V} {n mb : Nat} {T : Nat → Nat} {S : List Nat} {HH : Nat → Ho}
set_option maxRecDepth 100000 in
set_option maxHeartbeats 4000000 in
theorem m_thrown (hm : isMo sh mb) : fl_M cy z0 ext (d + 1) m_X7_thrown [.ref (z0 + mb)] sh V n (fun v sh' V' n' => v = some (.int (V mb 0)) ∧ sh' = sh ∧ n' = n ∧ V' = V) := by
  have m0 := hm.1
  refine fs_body rfl rfl (fun Ret hP => ?_)
  refine fs_aload_n (pc2 := 1) rfl rfl rfl rfl ?_
  refine fs_geti (pc2 := 4) rfl rfl rfl (by assumption) rfl ?_
  refine fs_iret rfl rfl True.intro ?_
  exact hP _ _ _ _ ⟨rfl, rfl, rfl, rfl⟩
set_option maxRecDepth 100000 in
set_option maxHeartbeats 4000000 in
theorem m_refused (hm : isMo sh mb) (hM : Mo V mb T S HH) {w : Int32} : fl_M cy z0 ext (d + 1) m_X7_refused [.ref (z0 + mb), .int w] sh V n (fun v sh' V' n' => v = some (.int (bI (decide (¬ w ≤ 0)))) ∧ sh' = sh ∧ n' = n ∧ Mo V' mb T S HH ∧ V' mb 0 = w ∧ ∀ a, (a < mb ∨ mb + 46 ≤ a) → V' a = V a) := by
  have m0 := hm.1
  refine fs_body rfl rfl (fun Ret hP => ?_)
  refine fs_aload_n (pc2 := 1) rfl rfl rfl rfl ?_
  refine fs_iload_n (pc2 := 2) rfl rfl rfl rfl ?_
  refine fs_puti (pc2 := 5) rfl rfl rfl (by assumption) rfl True.intro ?_
  refine fs_iload_n (pc2 := 6) rfl rfl rfl rfl ?_
  refine fs_if_le (pc2 := 9) rfl rfl rfl (fun h6 => ?_) (fun h6 => ?_)
  · refine fs_iconst (pc2 := 14) rfl rfl rfl ?_
    refine fs_iret rfl rfl (Or.inl rfl) ?_
    exact hP _ _ _ _ ⟨by simp [bI, h6], rfl, rfl, hM.tmp (FM.refl.up (j := 0) (i := 0) (by simp [own])), by simp [up2], fun a ha => up2_o (by omega)⟩
  · refine fs_iconst (pc2 := 10) rfl rfl rfl ?_
    refine fs_goto rfl rfl ?_
    refine fs_iret rfl rfl (Or.inr rfl) ?_
    exact hP _ _ _ _ ⟨by simp [bI, h6], rfl, rfl, hM.tmp (FM.refl.up (j := 0) (i := 0) (by simp [own])), by simp [up2], fun a ha => up2_o (by omega)⟩
set_option maxRecDepth 100000 in
set_option maxHeartbeats 4000000 in
theorem m_isIn {u a b : Int32} : fl_M cy z0 ext (d + 1) m_X7_isIn [.int u, .int a, .int b] sh V n (fun v sh' V' n' => v = some (.int (bI (isInB u a b))) ∧ sh' = sh ∧ n' = n ∧ V' = V) := by
  refine fs_body rfl rfl (fun Ret hP => ?_)
  refine fs_iload_n (pc2 := 1) rfl rfl rfl rfl ?_
  refine fs_iload_n (pc2 := 2) rfl rfl rfl rfl ?_
  refine fs_icmp_lt (pc2 := 5) rfl rfl rfl (fun h2 => ?_) (fun h2 => ?_)
  · refine fs_iconst (pc2 := 15) rfl rfl rfl ?_
    refine fs_iret rfl rfl (Or.inl rfl) ?_
    refine hP _ _ _ _ ⟨?_, rfl, rfl, rfl⟩
    rw [show isInB u a b = false from by simp [isInB, h2]]
    rfl
  · refine fs_iload_n (pc2 := 6) rfl rfl rfl rfl ?_
    refine fs_iload_n (pc2 := 7) rfl rfl rfl rfl ?_
    refine fs_icmp_gt (pc2 := 10) rfl rfl rfl (fun h7 => ?_) (fun h7 => ?_)
    · refine fs_iconst (pc2 := 15) rfl rfl rfl ?_
      refine fs_iret rfl rfl (Or.inl rfl) ?_
      refine hP _ _ _ _ ⟨?_, rfl, rfl, rfl⟩
      rw [show isInB u a b = false from by simp [isInB, h2, h7]]
      rfl
    · refine fs_iconst (pc2 := 11) rfl rfl rfl ?_
      refine fs_goto rfl rfl ?_
      refine fs_iret rfl rfl (Or.inr rfl) ?_
      refine hP _ _ _ _ ⟨?_, rfl, rfl, rfl⟩
      rw [show isInB u a b = true from by simp [isInB, h2, h7]]
      rfl
set_option maxRecDepth 100000 in
set_option maxHeartbeats 4000000 in
theorem m_isHost {u : Int32} : fl_M cy z0 ext (d + 1) m_X7_isHost [.int u] sh V n (fun v sh' V' n' => v = some (.int (bI (isHostM u))) ∧ sh' = sh ∧ n' = n ∧ V' = V) := by
  refine fs_body rfl rfl (fun Ret hP => ?_)
  refine fs_iload_n (pc2 := 1) rfl rfl rfl rfl ?_
  refine fs_if_eq (pc2 := 4) rfl rfl rfl (fun h1 => ?_) (fun h1 => ?_)
  · refine fs_iconst (pc2 := 10) rfl rfl rfl ?_
    refine fs_goto rfl rfl ?_
    refine fs_iret rfl rfl (Or.inr rfl) ?_
    refine hP _ _ _ _ ⟨?_, rfl, rfl, rfl⟩
    rw [show isHostM u = true from by simp [isHostM, h1]]
    rfl
  · refine fs_iload_n (pc2 := 5) rfl rfl rfl rfl ?_
    refine fs_iconst (pc2 := 6) rfl rfl rfl ?_
    refine fs_icmp_ne (pc2 := 9) rfl rfl rfl (fun h6 => ?_) (fun h6 => ?_)
    · refine fs_iconst (pc2 := 14) rfl rfl rfl ?_
      refine fs_iret rfl rfl (Or.inl rfl) ?_
      refine hP _ _ _ _ ⟨?_, rfl, rfl, rfl⟩
      rw [show isHostM u = false from by simp [isHostM, h1, h6]]
      rfl
    · refine fs_iconst (pc2 := 10) rfl rfl rfl ?_
      refine fs_goto rfl rfl ?_
      refine fs_iret rfl rfl (Or.inr rfl) ?_
      refine hP _ _ _ _ ⟨?_, rfl, rfl, rfl⟩
      rw [show isHostM u = true from by simp [isHostM, h1, h6]]
      rfl
set_option maxRecDepth 100000 in
set_option maxHeartbeats 4000000 in
theorem m_isChannel {u w : Int32} : fl_M cy z0 ext (d + 2) m_X7_isChannel [.int u, .int w] sh V n (fun v sh' V' n' => v = some (.int (bI (isHostM u && isInB w 64 67))) ∧ sh' = sh ∧ n' = n ∧ V' = V) := by
  refine fs_body rfl rfl (fun Ret hP => ?_)
  refine fs_iload_n (pc2 := 1) rfl rfl rfl rfl ?_
  refine fs_calls (pc2 := 4) rfl rfl rfl rfl rfl rfl ⟨rfl, rfl⟩ (Nat.le_of_ble_eq_true rfl) (Nat.le_of_ble_eq_true rfl) (Nat.le_of_ble_eq_true rfl) (m_isHost (u := u)) (fun v9 sh9 V9 n9 hp9 => ?_)
  obtain ⟨ea9, eb9, ec9, hv9⟩ := hp9
  cases ea9
  obtain rfl := eb9.symm
  obtain rfl := ec9.symm
  cases hv9
  refine fs_if_eq (pc2 := 7) rfl rfl rfl (fun h4 => ?_) (fun h4 => ?_)
  · have k4 : isHostM u = false := bI_0.mp h4
    refine fs_iconst (pc2 := 23) rfl rfl rfl ?_
    refine fs_iret rfl rfl (Or.inl rfl) ?_
    refine hP _ _ _ _ ⟨?_, rfl, rfl, rfl⟩
    rw [k4]
    rfl
  · have k4 : isHostM u = true := by
      cases hb2 : isHostM u with
      | true => rfl
      | false => rw [hb2] at h4; exact absurd rfl h4
    refine fs_iload_n (pc2 := 8) rfl rfl rfl rfl ?_
    refine fs_bipush (pc2 := 10) rfl rfl rfl ?_
    refine fs_bipush (pc2 := 12) rfl rfl rfl ?_
    refine fs_calls (pc2 := 15) rfl rfl rfl rfl rfl rfl ⟨rfl, rfl⟩ (Nat.le_of_ble_eq_true rfl) (Nat.le_of_ble_eq_true rfl) (Nat.le_of_ble_eq_true rfl) (m_isIn (u := w) (a := 64) (b := 67)) (fun v9 sh9 V9 n9 hp9 => ?_)
    obtain ⟨ea9, eb9, ec9, hv9⟩ := hp9
    cases ea9
    obtain rfl := eb9.symm
    obtain rfl := ec9.symm
    cases hv9
    refine fs_if_eq (pc2 := 18) rfl rfl rfl (fun h15 => ?_) (fun h15 => ?_)
    · have k15 : isInB w 64 67 = false := bI_0.mp h15
      refine fs_iconst (pc2 := 23) rfl rfl rfl ?_
      refine fs_iret rfl rfl (Or.inl rfl) ?_
      refine hP _ _ _ _ ⟨?_, rfl, rfl, rfl⟩
      rw [k4, k15]
      rfl
    · have k15 : isInB w 64 67 = true := by
        cases hb2 : isInB w 64 67 with
        | true => rfl
        | false => rw [hb2] at h15; exact absurd rfl h15
      refine fs_iconst (pc2 := 19) rfl rfl rfl ?_
      refine fs_goto rfl rfl ?_
      refine fs_iret rfl rfl (Or.inr rfl) ?_
      refine hP _ _ _ _ ⟨?_, rfl, rfl, rfl⟩
      rw [k4, k15]
      rfl
set_option maxRecDepth 100000 in
set_option maxHeartbeats 4000000 in
theorem m_isSound {co l : Nat} (hco : co < 2 ^ 31) (hl : l < 2 ^ 31) : fl_M cy z0 ext (d + 1) m_X7_isSound [.int (nI co), .int (nI l)] sh V n (fun v sh' V' n' => v = some (.int (bI (sigOK co l))) ∧ sh' = sh ∧ n' = n ∧ V' = V) := by
  refine fs_body rfl rfl (fun Ret hP => ?_)
  refine fs_iload_n (pc2 := 1) rfl rfl rfl rfl ?_
  refine fs_bipush (pc2 := 3) rfl rfl rfl ?_
  refine fs_icmp_ne (pc2 := 6) rfl rfl rfl (fun h3 => ?_) (fun h3 => ?_)
  · have k3 : l ≠ 10 := c_ne h3 rfl rfl
    refine fs_iload_n (pc2 := 19) rfl rfl rfl rfl ?_
    refine fs_iconst (pc2 := 20) rfl rfl rfl ?_
    refine fs_icmp_ne (pc2 := 23) rfl rfl rfl (fun h20 => ?_) (fun h20 => ?_)
    · have k20 : l ≠ 4 := c_ne h20 rfl rfl
      refine fs_iload_n (pc2 := 42) rfl rfl rfl rfl ?_
      refine fs_iconst (pc2 := 43) rfl rfl rfl ?_
      refine fs_icmp_ne (pc2 := 46) rfl rfl rfl (fun h43 => ?_) (fun h43 => ?_)
      · have k43 : co ≠ 1 := c_ne h43 rfl rfl
        refine fs_iconst (pc2 := 62) rfl rfl rfl ?_
        refine fs_iret rfl rfl (Or.inl rfl) ?_
        refine hP _ _ _ _ ⟨?_, rfl, rfl, rfl⟩
        rw [show sigOK co l = false from decide_eq_false (by omega)]
        rfl
      · have k43 : co = 1 := c_eq h43 rfl rfl
        refine fs_iload_n (pc2 := 47) rfl rfl rfl rfl ?_
        refine fs_iconst (pc2 := 48) rfl rfl rfl ?_
        refine fs_icmp_eq (pc2 := 51) rfl rfl rfl (fun h48 => ?_) (fun h48 => ?_)
        · have k48 : l = 2 := c_eq h48 rfl rfl
          refine fs_iconst (pc2 := 58) rfl rfl rfl ?_
          refine fs_goto rfl rfl ?_
          refine fs_iret rfl rfl (Or.inr rfl) ?_
          refine hP _ _ _ _ ⟨?_, rfl, rfl, rfl⟩
          rw [show sigOK co l = true from decide_eq_true (by omega)]
          rfl
        · have k48 : l ≠ 2 := c_ne h48 rfl rfl
          refine fs_iload_n (pc2 := 52) rfl rfl rfl rfl ?_
          refine fs_bipush (pc2 := 54) rfl rfl rfl ?_
          refine fs_icmp_ne (pc2 := 57) rfl rfl rfl (fun h54 => ?_) (fun h54 => ?_)
          · have k54 : l ≠ 6 := c_ne h54 rfl rfl
            refine fs_iconst (pc2 := 62) rfl rfl rfl ?_
            refine fs_iret rfl rfl (Or.inl rfl) ?_
            refine hP _ _ _ _ ⟨?_, rfl, rfl, rfl⟩
            rw [show sigOK co l = false from decide_eq_false (by omega)]
            rfl
          · have k54 : l = 6 := c_eq h54 rfl rfl
            refine fs_iconst (pc2 := 58) rfl rfl rfl ?_
            refine fs_goto rfl rfl ?_
            refine fs_iret rfl rfl (Or.inr rfl) ?_
            refine hP _ _ _ _ ⟨?_, rfl, rfl, rfl⟩
            rw [show sigOK co l = true from decide_eq_true (by omega)]
            rfl
    · have k20 : l = 4 := c_eq h20 rfl rfl
      refine fs_iload_n (pc2 := 24) rfl rfl rfl rfl ?_
      refine fs_bipush (pc2 := 26) rfl rfl rfl ?_
      refine fs_icmp_eq (pc2 := 29) rfl rfl rfl (fun h26 => ?_) (fun h26 => ?_)
      · have k26 : co = 22 := c_eq h26 rfl rfl
        refine fs_iconst (pc2 := 58) rfl rfl rfl ?_
        refine fs_goto rfl rfl ?_
        refine fs_iret rfl rfl (Or.inr rfl) ?_
        refine hP _ _ _ _ ⟨?_, rfl, rfl, rfl⟩
        rw [show sigOK co l = true from decide_eq_true (by omega)]
        rfl
      · have k26 : co ≠ 22 := c_ne h26 rfl rfl
        refine fs_iload_n (pc2 := 30) rfl rfl rfl rfl ?_
        refine fs_bipush (pc2 := 32) rfl rfl rfl ?_
        refine fs_icmp_eq (pc2 := 35) rfl rfl rfl (fun h32 => ?_) (fun h32 => ?_)
        · have k32 : co = 6 := c_eq h32 rfl rfl
          refine fs_iconst (pc2 := 58) rfl rfl rfl ?_
          refine fs_goto rfl rfl ?_
          refine fs_iret rfl rfl (Or.inr rfl) ?_
          refine hP _ _ _ _ ⟨?_, rfl, rfl, rfl⟩
          rw [show sigOK co l = true from decide_eq_true (by omega)]
          rfl
        · have k32 : co ≠ 6 := c_ne h32 rfl rfl
          refine fs_iload_n (pc2 := 36) rfl rfl rfl rfl ?_
          refine fs_bipush (pc2 := 38) rfl rfl rfl ?_
          refine fs_icmp_eq (pc2 := 41) rfl rfl rfl (fun h38 => ?_) (fun h38 => ?_)
          · have k38 : co = 7 := c_eq h38 rfl rfl
            refine fs_iconst (pc2 := 58) rfl rfl rfl ?_
            refine fs_goto rfl rfl ?_
            refine fs_iret rfl rfl (Or.inr rfl) ?_
            refine hP _ _ _ _ ⟨?_, rfl, rfl, rfl⟩
            rw [show sigOK co l = true from decide_eq_true (by omega)]
            rfl
          · have k38 : co ≠ 7 := c_ne h38 rfl rfl
            refine fs_iload_n (pc2 := 42) rfl rfl rfl rfl ?_
            refine fs_iconst (pc2 := 43) rfl rfl rfl ?_
            refine fs_icmp_ne (pc2 := 46) rfl rfl rfl (fun h43 => ?_) (fun h43 => ?_)
            · have k43 : co ≠ 1 := c_ne h43 rfl rfl
              refine fs_iconst (pc2 := 62) rfl rfl rfl ?_
              refine fs_iret rfl rfl (Or.inl rfl) ?_
              refine hP _ _ _ _ ⟨?_, rfl, rfl, rfl⟩
              rw [show sigOK co l = false from decide_eq_false (by omega)]
              rfl
            · have k43 : co = 1 := c_eq h43 rfl rfl
              refine fs_iload_n (pc2 := 47) rfl rfl rfl rfl ?_
              refine fs_iconst (pc2 := 48) rfl rfl rfl ?_
              refine fs_icmp_eq (pc2 := 51) rfl rfl rfl (fun h48 => ?_) (fun h48 => ?_)
              · have k48 : l = 2 := c_eq h48 rfl rfl
                refine fs_iconst (pc2 := 58) rfl rfl rfl ?_
                refine fs_goto rfl rfl ?_
                refine fs_iret rfl rfl (Or.inr rfl) ?_
                refine hP _ _ _ _ ⟨?_, rfl, rfl, rfl⟩
                rw [show sigOK co l = true from decide_eq_true (by omega)]
                rfl
              · have k48 : l ≠ 2 := c_ne h48 rfl rfl
                refine fs_iload_n (pc2 := 52) rfl rfl rfl rfl ?_
                refine fs_bipush (pc2 := 54) rfl rfl rfl ?_
                refine fs_icmp_ne (pc2 := 57) rfl rfl rfl (fun h54 => ?_) (fun h54 => ?_)
                · have k54 : l ≠ 6 := c_ne h54 rfl rfl
                  refine fs_iconst (pc2 := 62) rfl rfl rfl ?_
                  refine fs_iret rfl rfl (Or.inl rfl) ?_
                  refine hP _ _ _ _ ⟨?_, rfl, rfl, rfl⟩
                  rw [show sigOK co l = false from decide_eq_false (by omega)]
                  rfl
                · have k54 : l = 6 := c_eq h54 rfl rfl
                  refine fs_iconst (pc2 := 58) rfl rfl rfl ?_
                  refine fs_goto rfl rfl ?_
                  refine fs_iret rfl rfl (Or.inr rfl) ?_
                  refine hP _ _ _ _ ⟨?_, rfl, rfl, rfl⟩
                  rw [show sigOK co l = true from decide_eq_true (by omega)]
                  rfl
  · have k3 : l = 10 := c_eq h3 rfl rfl
    refine fs_iload_n (pc2 := 7) rfl rfl rfl rfl ?_
    refine fs_bipush (pc2 := 9) rfl rfl rfl ?_
    refine fs_icmp_eq (pc2 := 12) rfl rfl rfl (fun h9 => ?_) (fun h9 => ?_)
    · have k9 : co = 20 := c_eq h9 rfl rfl
      refine fs_iconst (pc2 := 58) rfl rfl rfl ?_
      refine fs_goto rfl rfl ?_
      refine fs_iret rfl rfl (Or.inr rfl) ?_
      refine hP _ _ _ _ ⟨?_, rfl, rfl, rfl⟩
      rw [show sigOK co l = true from decide_eq_true (by omega)]
      rfl
    · have k9 : co ≠ 20 := c_ne h9 rfl rfl
      refine fs_iload_n (pc2 := 13) rfl rfl rfl rfl ?_
      refine fs_bipush (pc2 := 15) rfl rfl rfl ?_
      refine fs_icmp_eq (pc2 := 18) rfl rfl rfl (fun h15 => ?_) (fun h15 => ?_)
      · have k15 : co = 21 := c_eq h15 rfl rfl
        refine fs_iconst (pc2 := 58) rfl rfl rfl ?_
        refine fs_goto rfl rfl ?_
        refine fs_iret rfl rfl (Or.inr rfl) ?_
        refine hP _ _ _ _ ⟨?_, rfl, rfl, rfl⟩
        rw [show sigOK co l = true from decide_eq_true (by omega)]
        rfl
      · have k15 : co ≠ 21 := c_ne h15 rfl rfl
        refine fs_iload_n (pc2 := 19) rfl rfl rfl rfl ?_
        refine fs_iconst (pc2 := 20) rfl rfl rfl ?_
        refine fs_icmp_ne (pc2 := 23) rfl rfl rfl (fun h20 => ?_) (fun h20 => ?_)
        · have k20 : l ≠ 4 := c_ne h20 rfl rfl
          refine fs_iload_n (pc2 := 42) rfl rfl rfl rfl ?_
          refine fs_iconst (pc2 := 43) rfl rfl rfl ?_
          refine fs_icmp_ne (pc2 := 46) rfl rfl rfl (fun h43 => ?_) (fun h43 => ?_)
          · have k43 : co ≠ 1 := c_ne h43 rfl rfl
            refine fs_iconst (pc2 := 62) rfl rfl rfl ?_
            refine fs_iret rfl rfl (Or.inl rfl) ?_
            refine hP _ _ _ _ ⟨?_, rfl, rfl, rfl⟩
            rw [show sigOK co l = false from decide_eq_false (by omega)]
            rfl
          · have k43 : co = 1 := c_eq h43 rfl rfl
            refine fs_iload_n (pc2 := 47) rfl rfl rfl rfl ?_
            refine fs_iconst (pc2 := 48) rfl rfl rfl ?_
            refine fs_icmp_eq (pc2 := 51) rfl rfl rfl (fun h48 => ?_) (fun h48 => ?_)
            · have k48 : l = 2 := c_eq h48 rfl rfl
              refine fs_iconst (pc2 := 58) rfl rfl rfl ?_
              refine fs_goto rfl rfl ?_
              refine fs_iret rfl rfl (Or.inr rfl) ?_
              refine hP _ _ _ _ ⟨?_, rfl, rfl, rfl⟩
              rw [show sigOK co l = true from decide_eq_true (by omega)]
              rfl
            · have k48 : l ≠ 2 := c_ne h48 rfl rfl
              refine fs_iload_n (pc2 := 52) rfl rfl rfl rfl ?_
              refine fs_bipush (pc2 := 54) rfl rfl rfl ?_
              refine fs_icmp_ne (pc2 := 57) rfl rfl rfl (fun h54 => ?_) (fun h54 => ?_)
              · have k54 : l ≠ 6 := c_ne h54 rfl rfl
                refine fs_iconst (pc2 := 62) rfl rfl rfl ?_
                refine fs_iret rfl rfl (Or.inl rfl) ?_
                refine hP _ _ _ _ ⟨?_, rfl, rfl, rfl⟩
                rw [show sigOK co l = false from decide_eq_false (by omega)]
                rfl
              · have k54 : l = 6 := c_eq h54 rfl rfl
                refine fs_iconst (pc2 := 58) rfl rfl rfl ?_
                refine fs_goto rfl rfl ?_
                refine fs_iret rfl rfl (Or.inr rfl) ?_
                refine hP _ _ _ _ ⟨?_, rfl, rfl, rfl⟩
                rw [show sigOK co l = true from decide_eq_true (by omega)]
                rfl
        · have k20 : l = 4 := c_eq h20 rfl rfl
          refine fs_iload_n (pc2 := 24) rfl rfl rfl rfl ?_
          refine fs_bipush (pc2 := 26) rfl rfl rfl ?_
          refine fs_icmp_eq (pc2 := 29) rfl rfl rfl (fun h26 => ?_) (fun h26 => ?_)
          · have k26 : co = 22 := c_eq h26 rfl rfl
            refine fs_iconst (pc2 := 58) rfl rfl rfl ?_
            refine fs_goto rfl rfl ?_
            refine fs_iret rfl rfl (Or.inr rfl) ?_
            refine hP _ _ _ _ ⟨?_, rfl, rfl, rfl⟩
            rw [show sigOK co l = true from decide_eq_true (by omega)]
            rfl
          · have k26 : co ≠ 22 := c_ne h26 rfl rfl
            refine fs_iload_n (pc2 := 30) rfl rfl rfl rfl ?_
            refine fs_bipush (pc2 := 32) rfl rfl rfl ?_
            refine fs_icmp_eq (pc2 := 35) rfl rfl rfl (fun h32 => ?_) (fun h32 => ?_)
            · have k32 : co = 6 := c_eq h32 rfl rfl
              refine fs_iconst (pc2 := 58) rfl rfl rfl ?_
              refine fs_goto rfl rfl ?_
              refine fs_iret rfl rfl (Or.inr rfl) ?_
              refine hP _ _ _ _ ⟨?_, rfl, rfl, rfl⟩
              rw [show sigOK co l = true from decide_eq_true (by omega)]
              rfl
            · have k32 : co ≠ 6 := c_ne h32 rfl rfl
              refine fs_iload_n (pc2 := 36) rfl rfl rfl rfl ?_
              refine fs_bipush (pc2 := 38) rfl rfl rfl ?_
              refine fs_icmp_eq (pc2 := 41) rfl rfl rfl (fun h38 => ?_) (fun h38 => ?_)
              · have k38 : co = 7 := c_eq h38 rfl rfl
                refine fs_iconst (pc2 := 58) rfl rfl rfl ?_
                refine fs_goto rfl rfl ?_
                refine fs_iret rfl rfl (Or.inr rfl) ?_
                refine hP _ _ _ _ ⟨?_, rfl, rfl, rfl⟩
                rw [show sigOK co l = true from decide_eq_true (by omega)]
                rfl
              · have k38 : co ≠ 7 := c_ne h38 rfl rfl
                refine fs_iload_n (pc2 := 42) rfl rfl rfl rfl ?_
                refine fs_iconst (pc2 := 43) rfl rfl rfl ?_
                refine fs_icmp_ne (pc2 := 46) rfl rfl rfl (fun h43 => ?_) (fun h43 => ?_)
                · have k43 : co ≠ 1 := c_ne h43 rfl rfl
                  refine fs_iconst (pc2 := 62) rfl rfl rfl ?_
                  refine fs_iret rfl rfl (Or.inl rfl) ?_
                  refine hP _ _ _ _ ⟨?_, rfl, rfl, rfl⟩
                  rw [show sigOK co l = false from decide_eq_false (by omega)]
                  rfl
                · have k43 : co = 1 := c_eq h43 rfl rfl
                  refine fs_iload_n (pc2 := 47) rfl rfl rfl rfl ?_
                  refine fs_iconst (pc2 := 48) rfl rfl rfl ?_
                  refine fs_icmp_eq (pc2 := 51) rfl rfl rfl (fun h48 => ?_) (fun h48 => ?_)
                  · have k48 : l = 2 := c_eq h48 rfl rfl
                    refine fs_iconst (pc2 := 58) rfl rfl rfl ?_
                    refine fs_goto rfl rfl ?_
                    refine fs_iret rfl rfl (Or.inr rfl) ?_
                    refine hP _ _ _ _ ⟨?_, rfl, rfl, rfl⟩
                    rw [show sigOK co l = true from decide_eq_true (by omega)]
                    rfl
                  · have k48 : l ≠ 2 := c_ne h48 rfl rfl
                    refine fs_iload_n (pc2 := 52) rfl rfl rfl rfl ?_
                    refine fs_bipush (pc2 := 54) rfl rfl rfl ?_
                    refine fs_icmp_ne (pc2 := 57) rfl rfl rfl (fun h54 => ?_) (fun h54 => ?_)
                    · have k54 : l ≠ 6 := c_ne h54 rfl rfl
                      refine fs_iconst (pc2 := 62) rfl rfl rfl ?_
                      refine fs_iret rfl rfl (Or.inl rfl) ?_
                      refine hP _ _ _ _ ⟨?_, rfl, rfl, rfl⟩
                      rw [show sigOK co l = false from decide_eq_false (by omega)]
                      rfl
                    · have k54 : l = 6 := c_eq h54 rfl rfl
                      refine fs_iconst (pc2 := 58) rfl rfl rfl ?_
                      refine fs_goto rfl rfl ?_
                      refine fs_iret rfl rfl (Or.inr rfl) ?_
                      refine hP _ _ _ _ ⟨?_, rfl, rfl, rfl⟩
                      rw [show sigOK co l = true from decide_eq_true (by omega)]
                      rfl
set_option maxRecDepth 100000 in
set_option maxHeartbeats 4000000 in
theorem m_handTwo (hm : isMo sh mb) {xs : List Nat} (hh : HD V mb xs) {k : Nat} (hk : k < 31) : fl_M cy z0 ext (d + 1) m_X7_handTwo [.ref (z0 + mb), .int (nI k)] sh V n (fun v sh' V' n' => v = some (.int (nI (xs.getD k 0 + 256 * xs.getD (k + 1) 0))) ∧ sh' = sh ∧ n' = n ∧ V' = V) := by
  have m0 := hm.1
  have a44 : sh (mb + 44) = some (.inl (1, 32, none)) := hm.2 43 (1, 32) rfl
  obtain ⟨e1, l1⟩ := hh k (by omega)
  obtain ⟨e2, l2⟩ := hh (k + 1) (by omega)
  have ek : (nI k).toNatClampNeg = k := nI_clamp (by omega)
  have ek1 : (nI k + 1).toNatClampNeg = k + 1 := by rw [nI_1]; exact nI_clamp (by omega)
  refine fs_body rfl rfl (fun Ret hP => ?_)
  refine fs_aload_n (pc2 := 1) rfl rfl rfl rfl ?_
  refine fs_getr (pc2 := 4) rfl rfl rfl (by assumption) rfl ?_
  refine fs_iload_n (pc2 := 5) rfl rfl rfl rfl ?_
  refine fs_iald (pc2 := 6) rfl rfl rfl (by assumption) (by first | exact vp_in_nI (by omega) (by decide) | (simp (disch := omega) only [nI_lit, pk_mul, nI_add, pk_sub, nI_clamp]; exact vp_in_nI (by omega) (by decide))) ?_
  refine fs_aload_n (pc2 := 7) rfl rfl rfl rfl ?_
  refine fs_getr (pc2 := 10) rfl rfl rfl (by assumption) rfl ?_
  refine fs_iload_n (pc2 := 11) rfl rfl rfl rfl ?_
  refine fs_iconst (pc2 := 12) rfl rfl rfl ?_
  refine fs_iadd (pc2 := 13) rfl rfl rfl ?_
  refine fs_iald (pc2 := 14) rfl rfl rfl (by assumption) (by first | exact vp_in_nI (by omega) (by decide) | (simp (disch := omega) only [nI_lit, pk_mul, nI_add, pk_sub, nI_clamp]; exact vp_in_nI (by omega) (by decide))) ?_
  refine fs_bipush (pc2 := 16) rfl rfl rfl ?_
  refine fs_ishl (pc2 := 17) rfl rfl rfl ?_
  refine fs_ior (pc2 := 18) rfl rfl rfl ?_
  refine fs_iret rfl rfl True.intro ?_
  refine hP _ _ _ _ ⟨?_, rfl, rfl, rfl⟩
  rw [ek, ek1, e1, e2, nI_two l1 (by omega)]
set_option maxRecDepth 100000 in
set_option maxHeartbeats 4000000 in
theorem m_begin (hm : isMo sh mb) (hM : Mo V mb T S HH) {co sid l : Nat} (hco : co < 256) (hid : sid < 256) (hl : l < 65536) : fl_M cy z0 ext (d + 1) m_X7_begin [.ref (z0 + mb), .int (nI co), .int (nI sid), .int (nI l)] sh V n (fun v sh' V' n' => v = none ∧ sh' = sh ∧ n' = n ∧ Mo V' mb T S HH ∧ MM V' mb [co, sid, l % 256, l / 256] ∧ (V' (mb + 44) = V (mb + 44)) ∧ V' mb 0 = V mb 0 ∧ ∀ a, (a < mb ∨ mb + 46 ≤ a) → V' a = V a) := by
  have m0 := hm.1
  have a45 : sh (mb + 45) = some (.inl (1, 16, none)) := hm.2 44 (1, 16) rfl
  refine fs_body rfl rfl (fun Ret hP => ?_)
  refine fs_aload_n (pc2 := 1) rfl rfl rfl rfl ?_
  refine fs_getr (pc2 := 4) rfl rfl rfl (by assumption) rfl ?_
  refine fs_iconst (pc2 := 5) rfl rfl rfl ?_
  refine fs_iload_n (pc2 := 6) rfl rfl rfl rfl ?_
  refine fs_iast (pc2 := 7) rfl rfl rfl (by assumption) (vp_in_nI (n := 0) (by decide) (by decide)) ?_
  refine fs_aload_n (pc2 := 8) rfl rfl rfl rfl ?_
  refine fs_getr (pc2 := 11) rfl rfl rfl (by assumption) rfl ?_
  refine fs_iconst (pc2 := 12) rfl rfl rfl ?_
  refine fs_iload_n (pc2 := 13) rfl rfl rfl rfl ?_
  refine fs_iast (pc2 := 14) rfl rfl rfl (by assumption) (vp_in_nI (n := 1) (by decide) (by decide)) ?_
  refine fs_aload_n (pc2 := 15) rfl rfl rfl rfl ?_
  refine fs_getr (pc2 := 18) rfl rfl rfl (by assumption) rfl ?_
  refine fs_iconst (pc2 := 19) rfl rfl rfl ?_
  refine fs_iload_n (pc2 := 20) rfl rfl rfl rfl ?_
  refine fs_sipush (pc2 := 23) rfl rfl rfl ?_
  refine fs_iand (pc2 := 24) rfl rfl rfl ?_
  refine fs_iast (pc2 := 25) rfl rfl rfl (by assumption) (vp_in_nI (n := 2) (by decide) (by decide)) ?_
  refine fs_aload_n (pc2 := 26) rfl rfl rfl rfl ?_
  refine fs_getr (pc2 := 29) rfl rfl rfl (by assumption) rfl ?_
  refine fs_iconst (pc2 := 30) rfl rfl rfl ?_
  refine fs_iload_n (pc2 := 31) rfl rfl rfl rfl ?_
  refine fs_bipush (pc2 := 33) rfl rfl rfl ?_
  refine fs_ishr (pc2 := 34) rfl rfl rfl ?_
  refine fs_iast (pc2 := 35) rfl rfl rfl (by assumption) (vp_in_nI (n := 3) (by decide) (by decide)) ?_
  refine fs_aload_n (pc2 := 36) rfl rfl rfl rfl ?_
  refine fs_iconst (pc2 := 37) rfl rfl rfl ?_
  refine fs_puti (pc2 := 40) rfl rfl rfl (by assumption) rfl True.intro ?_
  refine fs_ret rfl rfl ?_
  rw [nI_255 (by omega), nI_shr8 (by omega)]
  refine hP _ _ _ _ ⟨rfl, rfl, rfl, hM.tmp (((((FM.refl.up (j := 45) (by simp [own])).up (j := 45) (by simp [own])).up (j := 45) (by simp [own])).up (j := 45) (by simp [own])).up (j := 0) (i := 47) (by simp [own])), ⟨by simp [up2]; rfl, by simp, ?_⟩, ?_, ?_, fun a ha => ?_⟩
  · intro j b hj
    have lj := (List.getElem?_eq_some_iff.mp hj).1
    simp at lj
    rcases (by omega : j = 0 ∨ j = 1 ∨ j = 2 ∨ j = 3) with rfl | rfl | rfl | rfl <;> (simp at hj; subst hj; refine ⟨?_, by omega⟩; simp [up2, show (0 : Int32).toNatClampNeg = 0 from rfl, show (1 : Int32).toNatClampNeg = 1 from rfl, show (2 : Int32).toNatClampNeg = 2 from rfl, show (3 : Int32).toNatClampNeg = 3 from rfl])
  · rw [up2_o (by omega), up2_o (by omega), up2_o (by omega), up2_o (by omega), up2_o (by omega)]
  · simp [up2]
  · rw [up2_o (by omega), up2_o (by omega), up2_o (by omega), up2_o (by omega), up2_o (by omega)]
set_option maxRecDepth 100000 in
set_option maxHeartbeats 4000000 in
theorem m_two (hm : isMo sh mb) (hM : Mo V mb T S HH) {xs : List Nat} (hX : MM V mb xs) (hlx : xs.length + 2 ≤ 16) {k : Nat} (hk : k < 65536) : fl_M cy z0 ext (d + 1) m_X7_two [.ref (z0 + mb), .int (nI k)] sh V n (fun v sh' V' n' => v = none ∧ sh' = sh ∧ n' = n ∧ Mo V' mb T S HH ∧ MM V' mb (xs ++ [k % 256, k / 256]) ∧ (V' (mb + 44) = V (mb + 44)) ∧ V' mb 0 = V mb 0 ∧ ∀ a, (a < mb ∨ mb + 46 ≤ a) → V' a = V a) := by
  have m0 := hm.1
  have a45 : sh (mb + 45) = some (.inl (1, 16, none)) := hm.2 44 (1, 16) rfl
  obtain ⟨x1, x2, x3⟩ := id hX
  have i1 : vp_in (V mb 47) 16 := by rw [x1]; exact vp_in_nI (by omega) (by decide)
  have c1 : (V mb 47).toNatClampNeg = xs.length := by rw [x1]; exact nI_clamp (by omega)
  have i2 : vp_in (V mb 47 + 1) 16 := by rw [x1, nI_1]; exact vp_in_nI (by omega) (by decide)
  have c2 : (V mb 47 + 1).toNatClampNeg = xs.length + 1 := by rw [x1, nI_1]; exact nI_clamp (by omega)
  refine fs_body rfl rfl (fun Ret hP => ?_)
  refine fs_aload_n (pc2 := 1) rfl rfl rfl rfl ?_
  refine fs_getr (pc2 := 4) rfl rfl rfl (by assumption) rfl ?_
  refine fs_aload_n (pc2 := 5) rfl rfl rfl rfl ?_
  refine fs_geti (pc2 := 8) rfl rfl rfl (by assumption) rfl ?_
  refine fs_iload_n (pc2 := 9) rfl rfl rfl rfl ?_
  refine fs_sipush (pc2 := 12) rfl rfl rfl ?_
  refine fs_iand (pc2 := 13) rfl rfl rfl ?_
  refine fs_iast (pc2 := 14) rfl rfl rfl (by assumption) i1 ?_
  refine fs_aload_n (pc2 := 15) rfl rfl rfl rfl ?_
  refine fs_getr (pc2 := 18) rfl rfl rfl (by assumption) rfl ?_
  refine fs_aload_n (pc2 := 19) rfl rfl rfl rfl ?_
  refine fs_geti (pc2 := 22) rfl rfl rfl (by assumption) rfl ?_
  refine fs_iconst (pc2 := 23) rfl rfl rfl ?_
  refine fs_iadd (pc2 := 24) rfl rfl rfl ?_
  refine fs_iload_n (pc2 := 25) rfl rfl rfl rfl ?_
  refine fs_bipush (pc2 := 27) rfl rfl rfl ?_
  refine fs_ishr (pc2 := 28) rfl rfl rfl ?_
  refine fs_sipush (pc2 := 31) rfl rfl rfl ?_
  refine fs_iand (pc2 := 32) rfl rfl rfl ?_
  refine fs_iast (pc2 := 33) rfl rfl rfl (by assumption) (by rw [up2_o (by omega)]; exact i2) ?_
  refine fs_aload_n (pc2 := 34) rfl rfl rfl rfl ?_
  refine fs_aload_n (pc2 := 35) rfl rfl rfl rfl ?_
  refine fs_geti (pc2 := 38) rfl rfl rfl (by assumption) rfl ?_
  refine fs_iconst (pc2 := 39) rfl rfl rfl ?_
  refine fs_iadd (pc2 := 40) rfl rfl rfl ?_
  refine fs_puti (pc2 := 43) rfl rfl rfl (by assumption) rfl True.intro ?_
  refine fs_ret rfl rfl ?_
  have e47 : up2 (up2 V (mb + 45) (V mb 47).toNatClampNeg (nI k &&& 255)) (mb + 45) (up2 V (mb + 45) (V mb 47).toNatClampNeg (nI k &&& 255) mb 47 + 1).toNatClampNeg ((nI k >>> ((8 : Int32) &&& 31)) &&& 255) mb 47 = V mb 47 := by rw [up2_o (by omega), up2_o (by omega)]
  rw [e47, up2_o (k := mb + 45) (a := mb) (by omega), c1, c2, nI_255 (by omega), nI_shr8 (by omega), nI_255 (by omega), Nat.mod_eq_of_lt (show k / 256 < 256 by omega), show V mb 47 + 2 = nI (xs.length + 2) from by rw [x1]; exact nI_add _ 2]
  refine hP _ _ _ _ ⟨rfl, rfl, rfl, hM.tmp (((FM.refl.up (j := 45) (by simp [own])).up (j := 45) (by simp [own])).up (j := 0) (i := 47) (by simp [own])), ⟨by simp [up2], by simp; omega, ?_⟩, ?_, ?_, fun a ha => ?_⟩
  · intro j b hj
    have lj := (List.getElem?_eq_some_iff.mp hj).1
    simp at lj
    rcases (by omega : j < xs.length ∨ j = xs.length ∨ j = xs.length + 1) with q | rfl | rfl
    · rw [List.getElem?_append_left q] at hj
      have := x3 j b hj
      rw [Nat.zero_add] at this ⊢
      simpa [up2, show j ≠ xs.length by omega, show j ≠ xs.length + 1 by omega] using this
    · simp at hj; subst hj; refine ⟨?_, by omega⟩; simp [up2]
    · rw [List.getElem?_append_right (by omega), Nat.add_sub_cancel_left] at hj; simp at hj; subst hj; refine ⟨?_, by omega⟩; simp [up2]
  · rw [up2_o (by omega), up2_o (by omega), up2_o (by omega)]
  · simp [up2]
  · rw [up2_o (by omega), up2_o (by omega), up2_o (by omega)]
end SMALL
