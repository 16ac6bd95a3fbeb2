def isToldB (u s m p c : Int32) : Bool := isHostM u && isInB s (nI 1) (nI 9) && isInB m (nI 23) (nI 100) && isInB p (nI 23) (nI 100) && isInB c (nI 0) (nI 1000)
theorem rf0 : bI (decide (¬ nI 0 ≤ 0)) = nI 0 := by decide
theorem rf1 : bI (decide (¬ nI 1 ≤ 0)) = nI 1 := by decide
theorem rf2 : bI (decide (¬ nI 2 ≤ 0)) = nI 1 := by decide
theorem isHostM_nI {i : Nat} (h : i < 2) : isHostM (nI i) = true := by rcases (by omega : i = 0 ∨ i = 1) with rfl | rfl <;> decide
theorem isChM_nI {i k : Nat} (h : i < 2) (hk : k < 4) : (isHostM (nI i) && isInB (nI (64 + k)) 64 67) = true := by
  rw [isHostM_nI h, show (64 : Int32) = nI 64 from rfl, show (67 : Int32) = nI 67 from rfl, isInB_nI (by omega) (by decide) (by decide), decide_eq_true (by omega)]; rfl
theorem FM.zero {V : fl_V} {mb : Nat} {v : Int32} : FM mb 21 V (up2 V mb 0 v) := FM.refl.up (j := 0) (i := 0) (by simp [own])
theorem OU.zero {V : fl_V} {mb : Nat} {v : Int32} : OU mb V (up2 V mb 0 v) := OU.refl.up0
theorem Mo.at {V : fl_V} {mb h : Nat} {T : Nat → Nat} {S : List Nat} {HH : Nat → Ho} (hM : Mo V mb T S HH) : Mo V mb T S (va_up HH h (HH h)) := by rw [va_up_id]; exact hM
section MPUB
variable {cy : Nat → ClassId} {z0 : Nat} {ext : Nat → Nat → List Value → ev_H → Nat → ev_P → Prop} {d : Nat} {sh : fl_S} {V : fl_V} {n mb : Nat} {T : Nat → Nat} {S : List Nat} {HH : Nat → Ho} {H : Ho} {h k : Nat}
set_option maxRecDepth 100000 in
set_option maxHeartbeats 4000000 in
theorem m_refusedE (hm : isMo sh mb) {w : Int32} : fl_M cy z0 ext (d + 1) m_X7_refused [.ref (z0 + mb), .int w] sh V n (fun v sh' V' n' => v = some (.int (bI (decide (¬ w ≤ 0)))) ∧ sh' = sh ∧ n' = n ∧ V' = up2 V mb 0 w) := by
  have m0 := hm.1
  have m0 := hm.1
  refine fs_body rfl rfl (fun Ret hP => ?_)
  refine fs_aload_n (pc2 := 1) rfl rfl rfl rfl ?_
  refine fs_iload_n (pc2 := 2) rfl rfl rfl rfl ?_
  refine fs_puti (pc2 := 5) rfl rfl rfl (by assumption) rfl True.intro ?_
  refine fs_iload_n (pc2 := 6) rfl rfl rfl rfl ?_
  refine fs_if_le (pc2 := 9) rfl rfl rfl (fun h6 => ?_) (fun h6 => ?_)
  · refine fs_iconst (pc2 := 14) rfl rfl rfl ?_
    refine fs_iret rfl rfl (Or.inl rfl) ?_
    exact hP _ _ _ _ ⟨by simp [bI, h6], rfl, rfl, rfl⟩
  · refine fs_iconst (pc2 := 10) rfl rfl rfl ?_
    refine fs_goto rfl rfl ?_
    refine fs_iret rfl rfl (Or.inr rfl) ?_
    exact hP _ _ _ _ ⟨by simp [bI, h6], rfl, rfl, rfl⟩
set_option maxRecDepth 100000 in
set_option maxHeartbeats 4000000 in
theorem m_isTold {u s m p c : Int32} : fl_M cy z0 ext (d + 2) m_X7_isTold [.int u, .int s, .int m, .int p, .int c] sh V n (fun v sh' V' n' => v = some (.int (bI (isToldB u s m p c))) ∧ sh' = sh ∧ n' = n ∧ V' = V) := by
  refine fs_body rfl rfl (fun Ret hP => ?_)
  refine fs_iload_n (pc2 := 1) rfl rfl rfl rfl ?_
  try simp (disch := omega) only [nI_lit, pk_mul, nI_add, pk_sub, pk_rem4, nI_clamp, up2_o, up2_s, up2_i, cpV_o, cpV_i]
  refine fs_calls (pc2 := 4) rfl rfl rfl rfl rfl rfl ⟨rfl, rfl⟩ (Nat.le_of_ble_eq_true rfl) (Nat.le_of_ble_eq_true rfl) (Nat.le_of_ble_eq_true rfl) (m_isHost (u := u)) (fun v9 sh9 V9 n9 hp9 => ?_)
  obtain ⟨ea9, eb9, ec9, hv9⟩ := hp9
  cases ea9
  obtain rfl := eb9.symm
  obtain rfl := ec9.symm
  cases hv9
  try simp (disch := omega) only [nI_lit, pk_mul, nI_add, pk_sub, pk_rem4, nI_clamp, up2_o, up2_s, up2_i, cpV_o, cpV_i]
  refine fs_if_eq (pc2 := 7) rfl rfl rfl (fun h4 => ?_) (fun h4 => ?_)
  · have k4 : isHostM u = false := bI_0.mp h4
    refine fs_iconst (pc2 := 56) rfl rfl rfl ?_
    try simp (disch := omega) only [nI_lit, pk_mul, nI_add, pk_sub, pk_rem4, nI_clamp, up2_o, up2_s, up2_i, cpV_o, cpV_i]
    refine fs_iret rfl rfl (Or.inl rfl) ?_
    refine hP _ _ _ _ ⟨?_, rfl, rfl, rfl⟩
    rw [show isToldB u s m p c = false from by unfold isToldB; simp [k4]]
    rfl
  · have k4 : isHostM u = true := bI_t h4
    refine fs_iload_n (pc2 := 8) rfl rfl rfl rfl ?_
    refine fs_iconst (pc2 := 9) rfl rfl rfl ?_
    refine fs_bipush (pc2 := 11) rfl rfl rfl ?_
    try simp (disch := omega) only [nI_lit, pk_mul, nI_add, pk_sub, pk_rem4, nI_clamp, up2_o, up2_s, up2_i, cpV_o, cpV_i]
    refine fs_calls (pc2 := 14) rfl rfl rfl rfl rfl rfl ⟨rfl, rfl⟩ (Nat.le_of_ble_eq_true rfl) (Nat.le_of_ble_eq_true rfl) (Nat.le_of_ble_eq_true rfl) (m_isIn (u := s) (a := nI 1) (b := nI 9)) (fun v9 sh9 V9 n9 hp9 => ?_)
    obtain ⟨ea9, eb9, ec9, hv9⟩ := hp9
    cases ea9
    obtain rfl := eb9.symm
    obtain rfl := ec9.symm
    cases hv9
    try simp (disch := omega) only [nI_lit, pk_mul, nI_add, pk_sub, pk_rem4, nI_clamp, up2_o, up2_s, up2_i, cpV_o, cpV_i]
    refine fs_if_eq (pc2 := 17) rfl rfl rfl (fun h14 => ?_) (fun h14 => ?_)
    · have k14 : isInB s (nI 1) (nI 9) = false := bI_0.mp h14
      refine fs_iconst (pc2 := 56) rfl rfl rfl ?_
      try simp (disch := omega) only [nI_lit, pk_mul, nI_add, pk_sub, pk_rem4, nI_clamp, up2_o, up2_s, up2_i, cpV_o, cpV_i]
      refine fs_iret rfl rfl (Or.inl rfl) ?_
      refine hP _ _ _ _ ⟨?_, rfl, rfl, rfl⟩
      rw [show isToldB u s m p c = false from by unfold isToldB; simp [k4, k14]]
      rfl
    · have k14 : isInB s (nI 1) (nI 9) = true := bI_t h14
      refine fs_iload_n (pc2 := 18) rfl rfl rfl rfl ?_
      refine fs_bipush (pc2 := 20) rfl rfl rfl ?_
      refine fs_bipush (pc2 := 22) rfl rfl rfl ?_
      try simp (disch := omega) only [nI_lit, pk_mul, nI_add, pk_sub, pk_rem4, nI_clamp, up2_o, up2_s, up2_i, cpV_o, cpV_i]
      refine fs_calls (pc2 := 25) rfl rfl rfl rfl rfl rfl ⟨rfl, rfl⟩ (Nat.le_of_ble_eq_true rfl) (Nat.le_of_ble_eq_true rfl) (Nat.le_of_ble_eq_true rfl) (m_isIn (u := m) (a := nI 23) (b := nI 100)) (fun v9 sh9 V9 n9 hp9 => ?_)
      obtain ⟨ea9, eb9, ec9, hv9⟩ := hp9
      cases ea9
      obtain rfl := eb9.symm
      obtain rfl := ec9.symm
      cases hv9
      try simp (disch := omega) only [nI_lit, pk_mul, nI_add, pk_sub, pk_rem4, nI_clamp, up2_o, up2_s, up2_i, cpV_o, cpV_i]
      refine fs_if_eq (pc2 := 28) rfl rfl rfl (fun h25 => ?_) (fun h25 => ?_)
      · have k25 : isInB m (nI 23) (nI 100) = false := bI_0.mp h25
        refine fs_iconst (pc2 := 56) rfl rfl rfl ?_
        try simp (disch := omega) only [nI_lit, pk_mul, nI_add, pk_sub, pk_rem4, nI_clamp, up2_o, up2_s, up2_i, cpV_o, cpV_i]
        refine fs_iret rfl rfl (Or.inl rfl) ?_
        refine hP _ _ _ _ ⟨?_, rfl, rfl, rfl⟩
        rw [show isToldB u s m p c = false from by unfold isToldB; simp [k4, k14, k25]]
        rfl
      · have k25 : isInB m (nI 23) (nI 100) = true := bI_t h25
        refine fs_iload_n (pc2 := 29) rfl rfl rfl rfl ?_
        refine fs_bipush (pc2 := 31) rfl rfl rfl ?_
        refine fs_bipush (pc2 := 33) rfl rfl rfl ?_
        try simp (disch := omega) only [nI_lit, pk_mul, nI_add, pk_sub, pk_rem4, nI_clamp, up2_o, up2_s, up2_i, cpV_o, cpV_i]
        refine fs_calls (pc2 := 36) rfl rfl rfl rfl rfl rfl ⟨rfl, rfl⟩ (Nat.le_of_ble_eq_true rfl) (Nat.le_of_ble_eq_true rfl) (Nat.le_of_ble_eq_true rfl) (m_isIn (u := p) (a := nI 23) (b := nI 100)) (fun v9 sh9 V9 n9 hp9 => ?_)
        obtain ⟨ea9, eb9, ec9, hv9⟩ := hp9
        cases ea9
        obtain rfl := eb9.symm
        obtain rfl := ec9.symm
        cases hv9
        try simp (disch := omega) only [nI_lit, pk_mul, nI_add, pk_sub, pk_rem4, nI_clamp, up2_o, up2_s, up2_i, cpV_o, cpV_i]
        refine fs_if_eq (pc2 := 39) rfl rfl rfl (fun h36 => ?_) (fun h36 => ?_)
        · have k36 : isInB p (nI 23) (nI 100) = false := bI_0.mp h36
          refine fs_iconst (pc2 := 56) rfl rfl rfl ?_
          try simp (disch := omega) only [nI_lit, pk_mul, nI_add, pk_sub, pk_rem4, nI_clamp, up2_o, up2_s, up2_i, cpV_o, cpV_i]
          refine fs_iret rfl rfl (Or.inl rfl) ?_
          refine hP _ _ _ _ ⟨?_, rfl, rfl, rfl⟩
          rw [show isToldB u s m p c = false from by unfold isToldB; simp [k4, k14, k25, k36]]
          rfl
        · have k36 : isInB p (nI 23) (nI 100) = true := bI_t h36
          refine fs_iload (pc2 := 41) rfl rfl rfl rfl ?_
          refine fs_iconst (pc2 := 42) rfl rfl rfl ?_
          refine fs_sipush (pc2 := 45) rfl rfl rfl ?_
          try simp (disch := omega) only [nI_lit, pk_mul, nI_add, pk_sub, pk_rem4, nI_clamp, up2_o, up2_s, up2_i, cpV_o, cpV_i]
          refine fs_calls (pc2 := 48) rfl rfl rfl rfl rfl rfl ⟨rfl, rfl⟩ (Nat.le_of_ble_eq_true rfl) (Nat.le_of_ble_eq_true rfl) (Nat.le_of_ble_eq_true rfl) (m_isIn (u := c) (a := nI 0) (b := nI 1000)) (fun v9 sh9 V9 n9 hp9 => ?_)
          obtain ⟨ea9, eb9, ec9, hv9⟩ := hp9
          cases ea9
          obtain rfl := eb9.symm
          obtain rfl := ec9.symm
          cases hv9
          try simp (disch := omega) only [nI_lit, pk_mul, nI_add, pk_sub, pk_rem4, nI_clamp, up2_o, up2_s, up2_i, cpV_o, cpV_i]
          refine fs_if_eq (pc2 := 51) rfl rfl rfl (fun h48 => ?_) (fun h48 => ?_)
          · have k48 : isInB c (nI 0) (nI 1000) = false := bI_0.mp h48
            refine fs_iconst (pc2 := 56) rfl rfl rfl ?_
            try simp (disch := omega) only [nI_lit, pk_mul, nI_add, pk_sub, pk_rem4, nI_clamp, up2_o, up2_s, up2_i, cpV_o, cpV_i]
            refine fs_iret rfl rfl (Or.inl rfl) ?_
            refine hP _ _ _ _ ⟨?_, rfl, rfl, rfl⟩
            rw [show isToldB u s m p c = false from by unfold isToldB; simp [k4, k14, k25, k36, k48]]
            rfl
          · have k48 : isInB c (nI 0) (nI 1000) = true := bI_t h48
            refine fs_iconst (pc2 := 52) rfl rfl rfl ?_
            refine fs_goto rfl rfl ?_
            try simp (disch := omega) only [nI_lit, pk_mul, nI_add, pk_sub, pk_rem4, nI_clamp, up2_o, up2_s, up2_i, cpV_o, cpV_i]
            refine fs_iret rfl rfl (Or.inr rfl) ?_
            refine hP _ _ _ _ ⟨?_, rfl, rfl, rfl⟩
            rw [show isToldB u s m p c = true from by unfold isToldB; simp [k4, k14, k25, k36, k48]]
            rfl
set_option maxRecDepth 100000 in
set_option maxHeartbeats 4000000 in
theorem m_wrong1 (hm : isMo sh mb) {u w : Int32} {b : Bool} (hno : (isHostM u && isInB w 64 67 && b) = false) : fl_M cy z0 ext (d + 3) m_X7_wrong [.ref (z0 + mb), .int u, .int w, .int (bI b)] sh V n (fun v sh' V' n' => v = some (.int (nI 1)) ∧ sh' = sh ∧ n' = n ∧ V' = V) := by
  have m0 := hm.1
  have a6 : sh (mb + 6) = some (.inl (1, 8, none)) := hm.2 5 (1, 8) rfl
  refine fs_body rfl rfl (fun Ret hP => ?_)
  refine fs_iload_n (pc2 := 1) rfl rfl rfl rfl ?_
  refine fs_iload_n (pc2 := 2) rfl rfl rfl rfl ?_
  try simp (disch := omega) only [nI_lit, pk_mul, nI_add, pk_sub, pk_rem4, nI_clamp, up2_o, up2_s, up2_i, cpV_o, cpV_i]
  refine fs_calls (pc2 := 5) rfl rfl rfl rfl rfl rfl ⟨rfl, rfl⟩ (Nat.le_of_ble_eq_true rfl) (Nat.le_of_ble_eq_true rfl) (Nat.le_of_ble_eq_true rfl) (m_isChannel (u := u) (w := w)) (fun v9 sh9 V9 n9 hp9 => ?_)
  obtain ⟨ea9, eb9, ec9, hv9⟩ := hp9
  cases ea9
  obtain rfl := eb9.symm
  obtain rfl := ec9.symm
  cases hv9
  try simp (disch := omega) only [nI_lit, pk_mul, nI_add, pk_sub, pk_rem4, nI_clamp, up2_o, up2_s, up2_i, cpV_o, cpV_i]
  refine fs_if_eq (pc2 := 8) rfl rfl rfl (fun h5 => ?_) (fun h5 => ?_)
  · have k5 : (isHostM u && isInB w 64 67) = false := bI_0.mp h5
    refine fs_iconst (pc2 := 13) rfl rfl rfl ?_
    try simp (disch := omega) only [nI_lit, pk_mul, nI_add, pk_sub, pk_rem4, nI_clamp, up2_o, up2_s, up2_i, cpV_o, cpV_i]
    refine fs_iret rfl rfl True.intro ?_
    exact hP _ _ _ _ ⟨rfl, rfl, rfl, rfl⟩
  · have k5 : (isHostM u && isInB w 64 67) = true := bI_t h5
    refine fs_iload_n (pc2 := 9) rfl rfl rfl rfl ?_
    try simp (disch := omega) only [nI_lit, pk_mul, nI_add, pk_sub, pk_rem4, nI_clamp, up2_o, up2_s, up2_i, cpV_o, cpV_i]
    refine fs_if_ne (pc2 := 12) rfl rfl rfl (fun h9 => ?_) (fun h9 => ?_)
    · have k9 := bI_t h9
      rw [k5, k9] at hno
      cases hno
    · refine fs_iconst (pc2 := 13) rfl rfl rfl ?_
      try simp (disch := omega) only [nI_lit, pk_mul, nI_add, pk_sub, pk_rem4, nI_clamp, up2_o, up2_s, up2_i, cpV_o, cpV_i]
      refine fs_iret rfl rfl True.intro ?_
      exact hP _ _ _ _ ⟨rfl, rfl, rfl, rfl⟩
set_option maxRecDepth 100000 in
set_option maxHeartbeats 4000000 in
theorem m_wrongS (hm : isMo sh mb) (hM : Mo V mb T S (va_up HH h H)) (hh : h < 2) (hk : k < 4) : fl_M cy z0 ext (d + 3) m_X7_wrong [.ref (z0 + mb), .int (nI h), .int (nI (64 + k)), .int (bI true)] sh V n (fun v sh' V' n' => v = some (.int (nI (if (H.2.1 k).1 1 = 2 then 0 else 2))) ∧ sh' = sh ∧ n' = n ∧ V' = V) := by
  have m0 := hm.1
  have a6 : sh (mb + 6) = some (.inl (1, 8, none)) := hm.2 5 (1, 8) rfl
  obtain ⟨e6, l6⟩ := ((hM.host hh).2.2.2.2.2.2 k hk).num (1, 6) (by decide)
  dsimp only at e6 l6
  have ek : 4 * h + (64 + k) - 64 = 4 * h + k := by omega
  refine fs_body rfl rfl (fun Ret hP => ?_)
  refine fs_iload_n (pc2 := 1) rfl rfl rfl rfl ?_
  refine fs_iload_n (pc2 := 2) rfl rfl rfl rfl ?_
  try simp (disch := omega) only [nI_lit, pk_mul, nI_add, pk_sub, pk_rem4, nI_clamp, up2_o, up2_s, up2_i, cpV_o, cpV_i, ek, e6]
  refine fs_calls (pc2 := 5) rfl rfl rfl rfl rfl rfl ⟨rfl, rfl⟩ (Nat.le_of_ble_eq_true rfl) (Nat.le_of_ble_eq_true rfl) (Nat.le_of_ble_eq_true rfl) (m_isChannel (u := nI h) (w := nI (64 + k))) (fun v9 sh9 V9 n9 hp9 => ?_)
  obtain ⟨ea9, eb9, ec9, hv9⟩ := hp9
  cases ea9
  obtain rfl := eb9.symm
  obtain rfl := ec9.symm
  cases hv9
  rw [isChM_nI hh hk]
  try simp (disch := omega) only [nI_lit, pk_mul, nI_add, pk_sub, pk_rem4, nI_clamp, up2_o, up2_s, up2_i, cpV_o, cpV_i, ek, e6]
  refine fs_if_eq (pc2 := 8) rfl rfl rfl (fun h5 => ?_) (fun h5 => ?_)
  · exact absurd h5 (by decide)
  · refine fs_iload_n (pc2 := 9) rfl rfl rfl rfl ?_
    try simp (disch := omega) only [nI_lit, pk_mul, nI_add, pk_sub, pk_rem4, nI_clamp, up2_o, up2_s, up2_i, cpV_o, cpV_i, ek, e6]
    refine fs_if_ne (pc2 := 12) rfl rfl rfl (fun h9 => ?_) (fun h9 => ?_)
    · refine fs_aload_n (pc2 := 15) rfl rfl rfl rfl ?_
      refine fs_getr (pc2 := 18) rfl rfl rfl (by assumption) rfl ?_
      refine fs_iconst (pc2 := 19) rfl rfl rfl ?_
      refine fs_iload_n (pc2 := 20) rfl rfl rfl rfl ?_
      refine fs_imul (pc2 := 21) rfl rfl rfl ?_
      refine fs_iload_n (pc2 := 22) rfl rfl rfl rfl ?_
      refine fs_iadd (pc2 := 23) rfl rfl rfl ?_
      refine fs_bipush (pc2 := 25) rfl rfl rfl ?_
      refine fs_isub (pc2 := 26) rfl rfl rfl ?_
      try simp (disch := omega) only [nI_lit, pk_mul, nI_add, pk_sub, pk_rem4, nI_clamp, up2_o, up2_s, up2_i, cpV_o, cpV_i, ek, e6]
      refine fs_iald (pc2 := 27) rfl rfl rfl (by assumption) (vp_in_nI (by omega) (by decide)) ?_
      refine fs_iconst (pc2 := 28) rfl rfl rfl ?_
      try simp (disch := omega) only [nI_lit, pk_mul, nI_add, pk_sub, pk_rem4, nI_clamp, up2_o, up2_s, up2_i, cpV_o, cpV_i, ek, e6]
      refine fs_icmp_ne (pc2 := 31) rfl rfl rfl (fun h28 => ?_) (fun h28 => ?_)
      · have k28 : (H.2.1 k).1 1 ≠ 2 := c_ne (b := 2) h28 rfl rfl
        rw [if_neg k28] at hP
        refine fs_iconst (pc2 := 36) rfl rfl rfl ?_
        try simp (disch := omega) only [nI_lit, pk_mul, nI_add, pk_sub, pk_rem4, nI_clamp, up2_o, up2_s, up2_i, cpV_o, cpV_i, ek, e6]
        refine fs_iret rfl rfl True.intro ?_
        exact hP _ _ _ _ ⟨rfl, rfl, rfl, rfl⟩
      · have k28 : (H.2.1 k).1 1 = 2 := c_eq (b := 2) h28 rfl rfl
        rw [if_pos k28] at hP
        refine fs_iconst (pc2 := 32) rfl rfl rfl ?_
        refine fs_goto rfl rfl ?_
        try simp (disch := omega) only [nI_lit, pk_mul, nI_add, pk_sub, pk_rem4, nI_clamp, up2_o, up2_s, up2_i, cpV_o, cpV_i, ek, e6]
        refine fs_iret rfl rfl True.intro ?_
        exact hP _ _ _ _ ⟨rfl, rfl, rfl, rfl⟩
    · exact absurd h9 (by decide)
set_option maxRecDepth 100000 in
set_option maxHeartbeats 4000000 in
theorem m_service_no (hm : isMo sh mb) {u s m p c : Int32} (hno : (isToldB u s m p c) = false) : fl_M cy z0 ext (d + 3) m_X7_service [.ref (z0 + mb), .int u, .int s, .int m, .int p, .int c] sh V n (fun v sh' V' n' => v = none ∧ sh' = sh ∧ n' = n ∧ V' = up2 V mb 0 (nI 1)) := by
  have m0 := hm.1
  have a2 : sh (mb + 2) = some (.inl (2, 20, none)) := hm.2 1 (2, 20) rfl
  have a3 : sh (mb + 3) = some (.inl (1, 20, none)) := hm.2 2 (1, 20) rfl
  have a4 : sh (mb + 4) = some (.inl (1, 20, none)) := hm.2 3 (1, 20) rfl
  have a5 : sh (mb + 5) = some (.inl (1, 20, none)) := hm.2 4 (1, 20) rfl
  refine fs_body rfl rfl (fun Ret hP => ?_)
  refine fs_aload_n (pc2 := 1) rfl rfl rfl rfl ?_
  refine fs_iload_n (pc2 := 2) rfl rfl rfl rfl ?_
  refine fs_iload_n (pc2 := 3) rfl rfl rfl rfl ?_
  refine fs_iload_n (pc2 := 4) rfl rfl rfl rfl ?_
  refine fs_iload (pc2 := 6) rfl rfl rfl rfl ?_
  refine fs_iload (pc2 := 8) rfl rfl rfl rfl ?_
  try simp (disch := omega) only [nI_lit, pk_mul, nI_add, pk_sub, pk_rem4, nI_clamp, up2_o, up2_s, up2_i, cpV_o, cpV_i]
  refine fs_calls (pc2 := 11) rfl rfl rfl rfl rfl rfl ⟨rfl, rfl⟩ (Nat.le_of_ble_eq_true rfl) (Nat.le_of_ble_eq_true rfl) (Nat.le_of_ble_eq_true rfl) (m_isTold (u := u) (s := s) (m := m) (p := p) (c := c)) (fun v9 sh9 V9 n9 hp9 => ?_)
  obtain ⟨ea9, eb9, ec9, hv9⟩ := hp9
  cases ea9
  obtain rfl := eb9.symm
  obtain rfl := ec9.symm
  cases hv9
  try simp (disch := omega) only [nI_lit, pk_mul, nI_add, pk_sub, pk_rem4, nI_clamp, up2_o, up2_s, up2_i, cpV_o, cpV_i]
  refine fs_if_eq (pc2 := 14) rfl rfl rfl (fun h11 => ?_) (fun h11 => ?_)
  · refine fs_iconst (pc2 := 19) rfl rfl rfl ?_
    try simp (disch := omega) only [nI_lit, pk_mul, nI_add, pk_sub, pk_rem4, nI_clamp, up2_o, up2_s, up2_i, cpV_o, cpV_i]
    refine fs_callv (pc2 := 22) rfl rfl rfl rfl ⟨rfl, rfl⟩ (Nat.le_of_ble_eq_true rfl) (Nat.le_of_ble_eq_true rfl) (Nat.le_of_ble_eq_true rfl) (fs_rcv rfl (by assumption)) (m_refusedE hm (w := nI 1)) (fun v9 sh9 V9 n9 hp9 => ?_)
    obtain ⟨ea9, eb9, ec9, hv9⟩ := hp9
    cases ea9
    obtain rfl := eb9.symm
    obtain rfl := ec9.symm
    cases hv9
    rw [rf1]
    try simp (disch := omega) only [nI_lit, pk_mul, nI_add, pk_sub, pk_rem4, nI_clamp, up2_o, up2_s, up2_i, cpV_o, cpV_i]
    refine fs_if_eq (pc2 := 25) rfl rfl rfl (fun h22 => ?_) (fun h22 => ?_)
    · exact absurd h22 (by decide)
    · try simp (disch := omega) only [nI_lit, pk_mul, nI_add, pk_sub, pk_rem4, nI_clamp, up2_o, up2_s, up2_i, cpV_o, cpV_i]
      refine fs_ret rfl rfl ?_
      exact hP _ _ _ _ ⟨rfl, rfl, rfl, rfl⟩
  · have k11 : isToldB u s m p c = true := bI_t h11
    rw [k11] at hno
    cases hno
set_option maxRecDepth 100000 in
set_option maxHeartbeats 4000000 in
theorem m_connect_no (hm : isMo sh mb) {u s m p c : Int32} (hno : (isToldB u s m p c) = false) : fl_M cy z0 ext (d + 3) m_X7_connect [.ref (z0 + mb), .int u, .int s, .int m, .int p, .int c] sh V n (fun v sh' V' n' => v = some (.int (nI 0)) ∧ sh' = sh ∧ n' = n ∧ V' = up2 V mb 0 (nI 1)) := by
  have m0 := hm.1
  have a6 : sh (mb + 6) = some (.inl (1, 8, none)) := hm.2 5 (1, 8) rfl
  have a7 : sh (mb + 7) = some (.inl (1, 8, none)) := hm.2 6 (1, 8) rfl
  have a8 : sh (mb + 8) = some (.inl (1, 8, none)) := hm.2 7 (1, 8) rfl
  have a9 : sh (mb + 9) = some (.inl (1, 8, none)) := hm.2 8 (1, 8) rfl
  have a14 : sh (mb + 14) = some (.inl (1, 8, none)) := hm.2 13 (1, 8) rfl
  have a22 : sh (mb + 22) = some (.inl (1, 8, none)) := hm.2 21 (1, 8) rfl
  refine fs_body rfl rfl (fun Ret hP => ?_)
  refine fs_aload_n (pc2 := 1) rfl rfl rfl rfl ?_
  refine fs_iload_n (pc2 := 2) rfl rfl rfl rfl ?_
  refine fs_iload_n (pc2 := 3) rfl rfl rfl rfl ?_
  refine fs_iload_n (pc2 := 4) rfl rfl rfl rfl ?_
  refine fs_iload (pc2 := 6) rfl rfl rfl rfl ?_
  refine fs_iload (pc2 := 8) rfl rfl rfl rfl ?_
  try simp (disch := omega) only [nI_lit, pk_mul, nI_add, pk_sub, pk_rem4, nI_clamp, up2_o, up2_s, up2_i, cpV_o, cpV_i]
  refine fs_calls (pc2 := 11) rfl rfl rfl rfl rfl rfl ⟨rfl, rfl⟩ (Nat.le_of_ble_eq_true rfl) (Nat.le_of_ble_eq_true rfl) (Nat.le_of_ble_eq_true rfl) (m_isTold (u := u) (s := s) (m := m) (p := p) (c := c)) (fun v9 sh9 V9 n9 hp9 => ?_)
  obtain ⟨ea9, eb9, ec9, hv9⟩ := hp9
  cases ea9
  obtain rfl := eb9.symm
  obtain rfl := ec9.symm
  cases hv9
  try simp (disch := omega) only [nI_lit, pk_mul, nI_add, pk_sub, pk_rem4, nI_clamp, up2_o, up2_s, up2_i, cpV_o, cpV_i]
  refine fs_if_eq (pc2 := 14) rfl rfl rfl (fun h11 => ?_) (fun h11 => ?_)
  · refine fs_iconst (pc2 := 19) rfl rfl rfl ?_
    try simp (disch := omega) only [nI_lit, pk_mul, nI_add, pk_sub, pk_rem4, nI_clamp, up2_o, up2_s, up2_i, cpV_o, cpV_i]
    refine fs_callv (pc2 := 22) rfl rfl rfl rfl ⟨rfl, rfl⟩ (Nat.le_of_ble_eq_true rfl) (Nat.le_of_ble_eq_true rfl) (Nat.le_of_ble_eq_true rfl) (fs_rcv rfl (by assumption)) (m_refusedE hm (w := nI 1)) (fun v9 sh9 V9 n9 hp9 => ?_)
    obtain ⟨ea9, eb9, ec9, hv9⟩ := hp9
    cases ea9
    obtain rfl := eb9.symm
    obtain rfl := ec9.symm
    cases hv9
    rw [rf1]
    try simp (disch := omega) only [nI_lit, pk_mul, nI_add, pk_sub, pk_rem4, nI_clamp, up2_o, up2_s, up2_i, cpV_o, cpV_i]
    refine fs_if_eq (pc2 := 25) rfl rfl rfl (fun h22 => ?_) (fun h22 => ?_)
    · exact absurd h22 (by decide)
    · refine fs_iconst (pc2 := 26) rfl rfl rfl ?_
      try simp (disch := omega) only [nI_lit, pk_mul, nI_add, pk_sub, pk_rem4, nI_clamp, up2_o, up2_s, up2_i, cpV_o, cpV_i]
      refine fs_iret rfl rfl True.intro ?_
      exact hP _ _ _ _ ⟨rfl, rfl, rfl, rfl⟩
  · have k11 : isToldB u s m p c = true := bI_t h11
    rw [k11] at hno
    cases hno
set_option maxRecDepth 100000 in
set_option maxHeartbeats 4000000 in
theorem m_take_no (hm : isMo sh mb) {u : Int32} (hno : (isHostM u) = false) : fl_M cy z0 ext (d + 3) m_X7_take [.ref (z0 + mb), .int u] sh V n (fun v sh' V' n' => v = some (.int (nI 0)) ∧ sh' = sh ∧ n' = n ∧ V' = up2 V mb 0 (nI 1)) := by
  have m0 := hm.1
  have a34 : sh (mb + 34) = some (.inl (1, 2, none)) := hm.2 33 (1, 2) rfl
  have a36 : sh (mb + 36) = some (.inl (2, 64, none)) := hm.2 35 (2, 64) rfl
  refine fs_body rfl rfl (fun Ret hP => ?_)
  refine fs_aload_n (pc2 := 1) rfl rfl rfl rfl ?_
  refine fs_iload_n (pc2 := 2) rfl rfl rfl rfl ?_
  try simp (disch := omega) only [nI_lit, pk_mul, nI_add, pk_sub, pk_rem4, nI_clamp, up2_o, up2_s, up2_i, cpV_o, cpV_i]
  refine fs_calls (pc2 := 5) rfl rfl rfl rfl rfl rfl ⟨rfl, rfl⟩ (Nat.le_of_ble_eq_true rfl) (Nat.le_of_ble_eq_true rfl) (Nat.le_of_ble_eq_true rfl) (m_isHost (u := u)) (fun v9 sh9 V9 n9 hp9 => ?_)
  obtain ⟨ea9, eb9, ec9, hv9⟩ := hp9
  cases ea9
  obtain rfl := eb9.symm
  obtain rfl := ec9.symm
  cases hv9
  try simp (disch := omega) only [nI_lit, pk_mul, nI_add, pk_sub, pk_rem4, nI_clamp, up2_o, up2_s, up2_i, cpV_o, cpV_i]
  refine fs_if_eq (pc2 := 8) rfl rfl rfl (fun h5 => ?_) (fun h5 => ?_)
  · refine fs_iconst (pc2 := 13) rfl rfl rfl ?_
    try simp (disch := omega) only [nI_lit, pk_mul, nI_add, pk_sub, pk_rem4, nI_clamp, up2_o, up2_s, up2_i, cpV_o, cpV_i]
    refine fs_callv (pc2 := 16) rfl rfl rfl rfl ⟨rfl, rfl⟩ (Nat.le_of_ble_eq_true rfl) (Nat.le_of_ble_eq_true rfl) (Nat.le_of_ble_eq_true rfl) (fs_rcv rfl (by assumption)) (m_refusedE hm (w := nI 1)) (fun v9 sh9 V9 n9 hp9 => ?_)
    obtain ⟨ea9, eb9, ec9, hv9⟩ := hp9
    cases ea9
    obtain rfl := eb9.symm
    obtain rfl := ec9.symm
    cases hv9
    rw [rf1]
    try simp (disch := omega) only [nI_lit, pk_mul, nI_add, pk_sub, pk_rem4, nI_clamp, up2_o, up2_s, up2_i, cpV_o, cpV_i]
    refine fs_if_eq (pc2 := 19) rfl rfl rfl (fun h16 => ?_) (fun h16 => ?_)
    · exact absurd h16 (by decide)
    · refine fs_iconst (pc2 := 20) rfl rfl rfl ?_
      try simp (disch := omega) only [nI_lit, pk_mul, nI_add, pk_sub, pk_rem4, nI_clamp, up2_o, up2_s, up2_i, cpV_o, cpV_i]
      refine fs_iret rfl rfl True.intro ?_
      exact hP _ _ _ _ ⟨rfl, rfl, rfl, rfl⟩
  · have k5 : isHostM u = true := bI_t h5
    rw [k5] at hno
    cases hno
set_option maxRecDepth 100000 in
set_option maxHeartbeats 4000000 in
theorem m_lose_no (hm : isMo sh mb) {u : Int32} (hno : (isHostM u) = false) : fl_M cy z0 ext (d + 3) m_X7_lose [.ref (z0 + mb), .int u] sh V n (fun v sh' V' n' => v = some (.int (nI 0)) ∧ sh' = sh ∧ n' = n ∧ V' = up2 V mb 0 (nI 1)) := by
  have m0 := hm.1
  have a34 : sh (mb + 34) = some (.inl (1, 2, none)) := hm.2 33 (1, 2) rfl
  refine fs_body rfl rfl (fun Ret hP => ?_)
  refine fs_aload_n (pc2 := 1) rfl rfl rfl rfl ?_
  refine fs_iload_n (pc2 := 2) rfl rfl rfl rfl ?_
  try simp (disch := omega) only [nI_lit, pk_mul, nI_add, pk_sub, pk_rem4, nI_clamp, up2_o, up2_s, up2_i, cpV_o, cpV_i]
  refine fs_calls (pc2 := 5) rfl rfl rfl rfl rfl rfl ⟨rfl, rfl⟩ (Nat.le_of_ble_eq_true rfl) (Nat.le_of_ble_eq_true rfl) (Nat.le_of_ble_eq_true rfl) (m_isHost (u := u)) (fun v9 sh9 V9 n9 hp9 => ?_)
  obtain ⟨ea9, eb9, ec9, hv9⟩ := hp9
  cases ea9
  obtain rfl := eb9.symm
  obtain rfl := ec9.symm
  cases hv9
  try simp (disch := omega) only [nI_lit, pk_mul, nI_add, pk_sub, pk_rem4, nI_clamp, up2_o, up2_s, up2_i, cpV_o, cpV_i]
  refine fs_if_eq (pc2 := 8) rfl rfl rfl (fun h5 => ?_) (fun h5 => ?_)
  · refine fs_iconst (pc2 := 13) rfl rfl rfl ?_
    try simp (disch := omega) only [nI_lit, pk_mul, nI_add, pk_sub, pk_rem4, nI_clamp, up2_o, up2_s, up2_i, cpV_o, cpV_i]
    refine fs_callv (pc2 := 16) rfl rfl rfl rfl ⟨rfl, rfl⟩ (Nat.le_of_ble_eq_true rfl) (Nat.le_of_ble_eq_true rfl) (Nat.le_of_ble_eq_true rfl) (fs_rcv rfl (by assumption)) (m_refusedE hm (w := nI 1)) (fun v9 sh9 V9 n9 hp9 => ?_)
    obtain ⟨ea9, eb9, ec9, hv9⟩ := hp9
    cases ea9
    obtain rfl := eb9.symm
    obtain rfl := ec9.symm
    cases hv9
    rw [rf1]
    try simp (disch := omega) only [nI_lit, pk_mul, nI_add, pk_sub, pk_rem4, nI_clamp, up2_o, up2_s, up2_i, cpV_o, cpV_i]
    refine fs_if_eq (pc2 := 19) rfl rfl rfl (fun h16 => ?_) (fun h16 => ?_)
    · exact absurd h16 (by decide)
    · refine fs_iconst (pc2 := 20) rfl rfl rfl ?_
      try simp (disch := omega) only [nI_lit, pk_mul, nI_add, pk_sub, pk_rem4, nI_clamp, up2_o, up2_s, up2_i, cpV_o, cpV_i]
      refine fs_iret rfl rfl (Or.inl rfl) ?_
      exact hP _ _ _ _ ⟨rfl, rfl, rfl, rfl⟩
  · have k5 : isHostM u = true := bI_t h5
    rw [k5] at hno
    cases hno
set_option maxRecDepth 100000 in
set_option maxHeartbeats 4000000 in
theorem m_inject_no (hm : isMo sh mb) {u w x : Int32} (hno : (isHostM u && isInB w (nI 0) (nI 65535) && isInB x (nI 0) (nI 100)) = false) : fl_M cy z0 ext (d + 3) m_X7_inject [.ref (z0 + mb), .int u, .int w, .int x] sh V n (fun v sh' V' n' => v = some (.int (nI 0)) ∧ sh' = sh ∧ n' = n ∧ V' = up2 V mb 0 (nI 1)) := by
  have m0 := hm.1
  have a1 : sh (mb + 1) = some (.inl (1, 120, none)) := hm.2 0 (1, 120) rfl
  have a34 : sh (mb + 34) = some (.inl (1, 2, none)) := hm.2 33 (1, 2) rfl
  have a35 : sh (mb + 35) = some (.inl (1, 64, none)) := hm.2 34 (1, 64) rfl
  have a36 : sh (mb + 36) = some (.inl (2, 64, none)) := hm.2 35 (2, 64) rfl
  have a37 : sh (mb + 37) = some (.inl (2, 64, none)) := hm.2 36 (2, 64) rfl
  have a38 : sh (mb + 38) = some (.inl (1, 1728, none)) := hm.2 37 (1, 1728) rfl
  refine fs_body rfl rfl (fun Ret hP => ?_)
  refine fs_aload_n (pc2 := 1) rfl rfl rfl rfl ?_
  refine fs_iload_n (pc2 := 2) rfl rfl rfl rfl ?_
  try simp (disch := omega) only [nI_lit, pk_mul, nI_add, pk_sub, pk_rem4, nI_clamp, up2_o, up2_s, up2_i, cpV_o, cpV_i]
  refine fs_calls (pc2 := 5) rfl rfl rfl rfl rfl rfl ⟨rfl, rfl⟩ (Nat.le_of_ble_eq_true rfl) (Nat.le_of_ble_eq_true rfl) (Nat.le_of_ble_eq_true rfl) (m_isHost (u := u)) (fun v9 sh9 V9 n9 hp9 => ?_)
  obtain ⟨ea9, eb9, ec9, hv9⟩ := hp9
  cases ea9
  obtain rfl := eb9.symm
  obtain rfl := ec9.symm
  cases hv9
  try simp (disch := omega) only [nI_lit, pk_mul, nI_add, pk_sub, pk_rem4, nI_clamp, up2_o, up2_s, up2_i, cpV_o, cpV_i]
  refine fs_if_eq (pc2 := 8) rfl rfl rfl (fun h5 => ?_) (fun h5 => ?_)
  · refine fs_iconst (pc2 := 33) rfl rfl rfl ?_
    try simp (disch := omega) only [nI_lit, pk_mul, nI_add, pk_sub, pk_rem4, nI_clamp, up2_o, up2_s, up2_i, cpV_o, cpV_i]
    refine fs_callv (pc2 := 36) rfl rfl rfl rfl ⟨rfl, rfl⟩ (Nat.le_of_ble_eq_true rfl) (Nat.le_of_ble_eq_true rfl) (Nat.le_of_ble_eq_true rfl) (fs_rcv rfl (by assumption)) (m_refusedE hm (w := nI 1)) (fun v9 sh9 V9 n9 hp9 => ?_)
    obtain ⟨ea9, eb9, ec9, hv9⟩ := hp9
    cases ea9
    obtain rfl := eb9.symm
    obtain rfl := ec9.symm
    cases hv9
    rw [rf1]
    try simp (disch := omega) only [nI_lit, pk_mul, nI_add, pk_sub, pk_rem4, nI_clamp, up2_o, up2_s, up2_i, cpV_o, cpV_i]
    refine fs_if_eq (pc2 := 39) rfl rfl rfl (fun h36 => ?_) (fun h36 => ?_)
    · exact absurd h36 (by decide)
    · refine fs_iconst (pc2 := 40) rfl rfl rfl ?_
      try simp (disch := omega) only [nI_lit, pk_mul, nI_add, pk_sub, pk_rem4, nI_clamp, up2_o, up2_s, up2_i, cpV_o, cpV_i]
      refine fs_iret rfl rfl True.intro ?_
      exact hP _ _ _ _ ⟨rfl, rfl, rfl, rfl⟩
  · have k5 : isHostM u = true := bI_t h5
    refine fs_iload_n (pc2 := 9) rfl rfl rfl rfl ?_
    refine fs_iconst (pc2 := 10) rfl rfl rfl ?_
    refine fs_ldc (pc2 := 12) rfl rfl rfl ?_
    try simp (disch := omega) only [nI_lit, pk_mul, nI_add, pk_sub, pk_rem4, nI_clamp, up2_o, up2_s, up2_i, cpV_o, cpV_i]
    refine fs_calls (pc2 := 15) rfl rfl rfl rfl rfl rfl ⟨rfl, rfl⟩ (Nat.le_of_ble_eq_true rfl) (Nat.le_of_ble_eq_true rfl) (Nat.le_of_ble_eq_true rfl) (m_isIn (u := w) (a := nI 0) (b := nI 65535)) (fun v9 sh9 V9 n9 hp9 => ?_)
    obtain ⟨ea9, eb9, ec9, hv9⟩ := hp9
    cases ea9
    obtain rfl := eb9.symm
    obtain rfl := ec9.symm
    cases hv9
    try simp (disch := omega) only [nI_lit, pk_mul, nI_add, pk_sub, pk_rem4, nI_clamp, up2_o, up2_s, up2_i, cpV_o, cpV_i]
    refine fs_if_eq (pc2 := 18) rfl rfl rfl (fun h15 => ?_) (fun h15 => ?_)
    · refine fs_iconst (pc2 := 33) rfl rfl rfl ?_
      try simp (disch := omega) only [nI_lit, pk_mul, nI_add, pk_sub, pk_rem4, nI_clamp, up2_o, up2_s, up2_i, cpV_o, cpV_i]
      refine fs_callv (pc2 := 36) rfl rfl rfl rfl ⟨rfl, rfl⟩ (Nat.le_of_ble_eq_true rfl) (Nat.le_of_ble_eq_true rfl) (Nat.le_of_ble_eq_true rfl) (fs_rcv rfl (by assumption)) (m_refusedE hm (w := nI 1)) (fun v9 sh9 V9 n9 hp9 => ?_)
      obtain ⟨ea9, eb9, ec9, hv9⟩ := hp9
      cases ea9
      obtain rfl := eb9.symm
      obtain rfl := ec9.symm
      cases hv9
      rw [rf1]
      try simp (disch := omega) only [nI_lit, pk_mul, nI_add, pk_sub, pk_rem4, nI_clamp, up2_o, up2_s, up2_i, cpV_o, cpV_i]
      refine fs_if_eq (pc2 := 39) rfl rfl rfl (fun h36 => ?_) (fun h36 => ?_)
      · exact absurd h36 (by decide)
      · refine fs_iconst (pc2 := 40) rfl rfl rfl ?_
        try simp (disch := omega) only [nI_lit, pk_mul, nI_add, pk_sub, pk_rem4, nI_clamp, up2_o, up2_s, up2_i, cpV_o, cpV_i]
        refine fs_iret rfl rfl True.intro ?_
        exact hP _ _ _ _ ⟨rfl, rfl, rfl, rfl⟩
    · have k15 : isInB w (nI 0) (nI 65535) = true := bI_t h15
      refine fs_iload_n (pc2 := 19) rfl rfl rfl rfl ?_
      refine fs_iconst (pc2 := 20) rfl rfl rfl ?_
      refine fs_bipush (pc2 := 22) rfl rfl rfl ?_
      try simp (disch := omega) only [nI_lit, pk_mul, nI_add, pk_sub, pk_rem4, nI_clamp, up2_o, up2_s, up2_i, cpV_o, cpV_i]
      refine fs_calls (pc2 := 25) rfl rfl rfl rfl rfl rfl ⟨rfl, rfl⟩ (Nat.le_of_ble_eq_true rfl) (Nat.le_of_ble_eq_true rfl) (Nat.le_of_ble_eq_true rfl) (m_isIn (u := x) (a := nI 0) (b := nI 100)) (fun v9 sh9 V9 n9 hp9 => ?_)
      obtain ⟨ea9, eb9, ec9, hv9⟩ := hp9
      cases ea9
      obtain rfl := eb9.symm
      obtain rfl := ec9.symm
      cases hv9
      try simp (disch := omega) only [nI_lit, pk_mul, nI_add, pk_sub, pk_rem4, nI_clamp, up2_o, up2_s, up2_i, cpV_o, cpV_i]
      refine fs_if_eq (pc2 := 28) rfl rfl rfl (fun h25 => ?_) (fun h25 => ?_)
      · refine fs_iconst (pc2 := 33) rfl rfl rfl ?_
        try simp (disch := omega) only [nI_lit, pk_mul, nI_add, pk_sub, pk_rem4, nI_clamp, up2_o, up2_s, up2_i, cpV_o, cpV_i]
        refine fs_callv (pc2 := 36) rfl rfl rfl rfl ⟨rfl, rfl⟩ (Nat.le_of_ble_eq_true rfl) (Nat.le_of_ble_eq_true rfl) (Nat.le_of_ble_eq_true rfl) (fs_rcv rfl (by assumption)) (m_refusedE hm (w := nI 1)) (fun v9 sh9 V9 n9 hp9 => ?_)
        obtain ⟨ea9, eb9, ec9, hv9⟩ := hp9
        cases ea9
        obtain rfl := eb9.symm
        obtain rfl := ec9.symm
        cases hv9
        rw [rf1]
        try simp (disch := omega) only [nI_lit, pk_mul, nI_add, pk_sub, pk_rem4, nI_clamp, up2_o, up2_s, up2_i, cpV_o, cpV_i]
        refine fs_if_eq (pc2 := 39) rfl rfl rfl (fun h36 => ?_) (fun h36 => ?_)
        · exact absurd h36 (by decide)
        · refine fs_iconst (pc2 := 40) rfl rfl rfl ?_
          try simp (disch := omega) only [nI_lit, pk_mul, nI_add, pk_sub, pk_rem4, nI_clamp, up2_o, up2_s, up2_i, cpV_o, cpV_i]
          refine fs_iret rfl rfl True.intro ?_
          exact hP _ _ _ _ ⟨rfl, rfl, rfl, rfl⟩
      · have k25 : isInB x (nI 0) (nI 100) = true := bI_t h25
        rw [k5, k15, k25] at hno
        cases hno
set_option maxRecDepth 100000 in
set_option maxHeartbeats 4000000 in
theorem m_receive_no (hm : isMo sh mb) {u w : Int32} (hno : (isHostM u && isInB w 64 67) = false) : fl_M cy z0 ext (d + 4) m_X7_receive [.ref (z0 + mb), .int u, .int w] sh V n (fun v sh' V' n' => v = some (.int (nI 0)) ∧ sh' = sh ∧ n' = n ∧ V' = up2 V mb 0 (nI 1)) := by
  have m0 := hm.1
  have a1 : sh (mb + 1) = some (.inl (1, 120, none)) := hm.2 0 (1, 120) rfl
  have a22 : sh (mb + 22) = some (.inl (1, 8, none)) := hm.2 21 (1, 8) rfl
  have a23 : sh (mb + 23) = some (.inl (1, 32, none)) := hm.2 22 (1, 32) rfl
  have a24 : sh (mb + 24) = some (.inl (1, 4096, none)) := hm.2 23 (1, 4096) rfl
  refine fs_body rfl rfl (fun Ret hP => ?_)
  refine fs_aload_n (pc2 := 1) rfl rfl rfl rfl ?_
  refine fs_iload_n (pc2 := 2) rfl rfl rfl rfl ?_
  refine fs_iload_n (pc2 := 3) rfl rfl rfl rfl ?_
  try simp (disch := omega) only [nI_lit, pk_mul, nI_add, pk_sub, pk_rem4, nI_clamp, up2_o, up2_s, up2_i, cpV_o, cpV_i]
  refine fs_calls (pc2 := 6) rfl rfl rfl rfl rfl rfl ⟨rfl, rfl⟩ (Nat.le_of_ble_eq_true rfl) (Nat.le_of_ble_eq_true rfl) (Nat.le_of_ble_eq_true rfl) (m_isChannel (u := u) (w := w)) (fun v9 sh9 V9 n9 hp9 => ?_)
  obtain ⟨ea9, eb9, ec9, hv9⟩ := hp9
  cases ea9
  obtain rfl := eb9.symm
  obtain rfl := ec9.symm
  cases hv9
  try simp (disch := omega) only [nI_lit, pk_mul, nI_add, pk_sub, pk_rem4, nI_clamp, up2_o, up2_s, up2_i, cpV_o, cpV_i]
  refine fs_if_eq (pc2 := 9) rfl rfl rfl (fun h6 => ?_) (fun h6 => ?_)
  · refine fs_iconst (pc2 := 14) rfl rfl rfl ?_
    try simp (disch := omega) only [nI_lit, pk_mul, nI_add, pk_sub, pk_rem4, nI_clamp, up2_o, up2_s, up2_i, cpV_o, cpV_i]
    refine fs_callv (pc2 := 17) rfl rfl rfl rfl ⟨rfl, rfl⟩ (Nat.le_of_ble_eq_true rfl) (Nat.le_of_ble_eq_true rfl) (Nat.le_of_ble_eq_true rfl) (fs_rcv rfl (by assumption)) (m_refusedE hm (w := nI 1)) (fun v9 sh9 V9 n9 hp9 => ?_)
    obtain ⟨ea9, eb9, ec9, hv9⟩ := hp9
    cases ea9
    obtain rfl := eb9.symm
    obtain rfl := ec9.symm
    cases hv9
    rw [rf1]
    try simp (disch := omega) only [nI_lit, pk_mul, nI_add, pk_sub, pk_rem4, nI_clamp, up2_o, up2_s, up2_i, cpV_o, cpV_i]
    refine fs_if_eq (pc2 := 20) rfl rfl rfl (fun h17 => ?_) (fun h17 => ?_)
    · exact absurd h17 (by decide)
    · refine fs_iconst (pc2 := 21) rfl rfl rfl ?_
      try simp (disch := omega) only [nI_lit, pk_mul, nI_add, pk_sub, pk_rem4, nI_clamp, up2_o, up2_s, up2_i, cpV_o, cpV_i]
      refine fs_iret rfl rfl True.intro ?_
      exact hP _ _ _ _ ⟨rfl, rfl, rfl, rfl⟩
  · have k6 : (isHostM u && isInB w 64 67) = true := bI_t h6
    rw [k6] at hno
    cases hno
set_option maxRecDepth 100000 in
set_option maxHeartbeats 4000000 in
theorem m_channel_no (hm : isMo sh mb) {u w x : Int32} (hno : ((isHostM u && isInB w 64 67) && isInB x (nI 0) (nI 7)) = false) : fl_M cy z0 ext (d + 4) m_X7_channel [.ref (z0 + mb), .int u, .int w, .int x] sh V n (fun v sh' V' n' => v = some (.int (nI 0)) ∧ sh' = sh ∧ n' = n ∧ V' = up2 V mb 0 (nI 1)) := by
  have m0 := hm.1
  have a6 : sh (mb + 6) = some (.inl (1, 8, none)) := hm.2 5 (1, 8) rfl
  have a9 : sh (mb + 9) = some (.inl (1, 8, none)) := hm.2 8 (1, 8) rfl
  have a10 : sh (mb + 10) = some (.inl (1, 8, none)) := hm.2 9 (1, 8) rfl
  have a11 : sh (mb + 11) = some (.inl (1, 8, none)) := hm.2 10 (1, 8) rfl
  have a12 : sh (mb + 12) = some (.inl (1, 8, none)) := hm.2 11 (1, 8) rfl
  have a13 : sh (mb + 13) = some (.inl (1, 8, none)) := hm.2 12 (1, 8) rfl
  have a15 : sh (mb + 15) = some (.inl (1, 8, none)) := hm.2 14 (1, 8) rfl
  have a22 : sh (mb + 22) = some (.inl (1, 8, none)) := hm.2 21 (1, 8) rfl
  refine fs_body rfl rfl (fun Ret hP => ?_)
  refine fs_aload_n (pc2 := 1) rfl rfl rfl rfl ?_
  refine fs_iload_n (pc2 := 2) rfl rfl rfl rfl ?_
  refine fs_iload_n (pc2 := 3) rfl rfl rfl rfl ?_
  try simp (disch := omega) only [nI_lit, pk_mul, nI_add, pk_sub, pk_rem4, nI_clamp, up2_o, up2_s, up2_i, cpV_o, cpV_i]
  refine fs_calls (pc2 := 6) rfl rfl rfl rfl rfl rfl ⟨rfl, rfl⟩ (Nat.le_of_ble_eq_true rfl) (Nat.le_of_ble_eq_true rfl) (Nat.le_of_ble_eq_true rfl) (m_isChannel (u := u) (w := w)) (fun v9 sh9 V9 n9 hp9 => ?_)
  obtain ⟨ea9, eb9, ec9, hv9⟩ := hp9
  cases ea9
  obtain rfl := eb9.symm
  obtain rfl := ec9.symm
  cases hv9
  try simp (disch := omega) only [nI_lit, pk_mul, nI_add, pk_sub, pk_rem4, nI_clamp, up2_o, up2_s, up2_i, cpV_o, cpV_i]
  refine fs_if_eq (pc2 := 9) rfl rfl rfl (fun h6 => ?_) (fun h6 => ?_)
  · refine fs_iconst (pc2 := 24) rfl rfl rfl ?_
    try simp (disch := omega) only [nI_lit, pk_mul, nI_add, pk_sub, pk_rem4, nI_clamp, up2_o, up2_s, up2_i, cpV_o, cpV_i]
    refine fs_callv (pc2 := 27) rfl rfl rfl rfl ⟨rfl, rfl⟩ (Nat.le_of_ble_eq_true rfl) (Nat.le_of_ble_eq_true rfl) (Nat.le_of_ble_eq_true rfl) (fs_rcv rfl (by assumption)) (m_refusedE hm (w := nI 1)) (fun v9 sh9 V9 n9 hp9 => ?_)
    obtain ⟨ea9, eb9, ec9, hv9⟩ := hp9
    cases ea9
    obtain rfl := eb9.symm
    obtain rfl := ec9.symm
    cases hv9
    rw [rf1]
    try simp (disch := omega) only [nI_lit, pk_mul, nI_add, pk_sub, pk_rem4, nI_clamp, up2_o, up2_s, up2_i, cpV_o, cpV_i]
    refine fs_if_eq (pc2 := 30) rfl rfl rfl (fun h27 => ?_) (fun h27 => ?_)
    · exact absurd h27 (by decide)
    · refine fs_iconst (pc2 := 31) rfl rfl rfl ?_
      try simp (disch := omega) only [nI_lit, pk_mul, nI_add, pk_sub, pk_rem4, nI_clamp, up2_o, up2_s, up2_i, cpV_o, cpV_i]
      refine fs_iret rfl rfl True.intro ?_
      exact hP _ _ _ _ ⟨rfl, rfl, rfl, rfl⟩
  · have k6 : (isHostM u && isInB w 64 67) = true := bI_t h6
    refine fs_iload_n (pc2 := 10) rfl rfl rfl rfl ?_
    refine fs_iconst (pc2 := 11) rfl rfl rfl ?_
    refine fs_bipush (pc2 := 13) rfl rfl rfl ?_
    try simp (disch := omega) only [nI_lit, pk_mul, nI_add, pk_sub, pk_rem4, nI_clamp, up2_o, up2_s, up2_i, cpV_o, cpV_i]
    refine fs_calls (pc2 := 16) rfl rfl rfl rfl rfl rfl ⟨rfl, rfl⟩ (Nat.le_of_ble_eq_true rfl) (Nat.le_of_ble_eq_true rfl) (Nat.le_of_ble_eq_true rfl) (m_isIn (u := x) (a := nI 0) (b := nI 7)) (fun v9 sh9 V9 n9 hp9 => ?_)
    obtain ⟨ea9, eb9, ec9, hv9⟩ := hp9
    cases ea9
    obtain rfl := eb9.symm
    obtain rfl := ec9.symm
    cases hv9
    try simp (disch := omega) only [nI_lit, pk_mul, nI_add, pk_sub, pk_rem4, nI_clamp, up2_o, up2_s, up2_i, cpV_o, cpV_i]
    refine fs_if_eq (pc2 := 19) rfl rfl rfl (fun h16 => ?_) (fun h16 => ?_)
    · refine fs_iconst (pc2 := 24) rfl rfl rfl ?_
      try simp (disch := omega) only [nI_lit, pk_mul, nI_add, pk_sub, pk_rem4, nI_clamp, up2_o, up2_s, up2_i, cpV_o, cpV_i]
      refine fs_callv (pc2 := 27) rfl rfl rfl rfl ⟨rfl, rfl⟩ (Nat.le_of_ble_eq_true rfl) (Nat.le_of_ble_eq_true rfl) (Nat.le_of_ble_eq_true rfl) (fs_rcv rfl (by assumption)) (m_refusedE hm (w := nI 1)) (fun v9 sh9 V9 n9 hp9 => ?_)
      obtain ⟨ea9, eb9, ec9, hv9⟩ := hp9
      cases ea9
      obtain rfl := eb9.symm
      obtain rfl := ec9.symm
      cases hv9
      rw [rf1]
      try simp (disch := omega) only [nI_lit, pk_mul, nI_add, pk_sub, pk_rem4, nI_clamp, up2_o, up2_s, up2_i, cpV_o, cpV_i]
      refine fs_if_eq (pc2 := 30) rfl rfl rfl (fun h27 => ?_) (fun h27 => ?_)
      · exact absurd h27 (by decide)
      · refine fs_iconst (pc2 := 31) rfl rfl rfl ?_
        try simp (disch := omega) only [nI_lit, pk_mul, nI_add, pk_sub, pk_rem4, nI_clamp, up2_o, up2_s, up2_i, cpV_o, cpV_i]
        refine fs_iret rfl rfl True.intro ?_
        exact hP _ _ _ _ ⟨rfl, rfl, rfl, rfl⟩
    · have k16 : isInB x (nI 0) (nI 7) = true := bI_t h16
      rw [k6, k16] at hno
      cases hno
set_option maxRecDepth 100000 in
set_option maxHeartbeats 4000000 in
theorem m_count_no (hm : isMo sh mb) {u w : Int32} (hno : (isHostM u && isInB w (nI 0) (nI 6)) = false) : fl_M cy z0 ext (d + 3) m_X7_count [.ref (z0 + mb), .int u, .int w] sh V n (fun v sh' V' n' => v = some (.int (nI 0)) ∧ sh' = sh ∧ n' = n ∧ V' = up2 V mb 0 (nI 1)) := by
  have m0 := hm.1
  have a26 : sh (mb + 26) = some (.inl (1, 2, none)) := hm.2 25 (1, 2) rfl
  have a34 : sh (mb + 34) = some (.inl (1, 2, none)) := hm.2 33 (1, 2) rfl
  have a39 : sh (mb + 39) = some (.inl (1, 2, none)) := hm.2 38 (1, 2) rfl
  have a41 : sh (mb + 41) = some (.inl (1, 2, none)) := hm.2 40 (1, 2) rfl
  have a42 : sh (mb + 42) = some (.inl (1, 2, none)) := hm.2 41 (1, 2) rfl
  have a43 : sh (mb + 43) = some (.inl (1, 2, none)) := hm.2 42 (1, 2) rfl
  refine fs_body rfl rfl (fun Ret hP => ?_)
  refine fs_aload_n (pc2 := 1) rfl rfl rfl rfl ?_
  refine fs_iload_n (pc2 := 2) rfl rfl rfl rfl ?_
  try simp (disch := omega) only [nI_lit, pk_mul, nI_add, pk_sub, pk_rem4, nI_clamp, up2_o, up2_s, up2_i, cpV_o, cpV_i]
  refine fs_calls (pc2 := 5) rfl rfl rfl rfl rfl rfl ⟨rfl, rfl⟩ (Nat.le_of_ble_eq_true rfl) (Nat.le_of_ble_eq_true rfl) (Nat.le_of_ble_eq_true rfl) (m_isHost (u := u)) (fun v9 sh9 V9 n9 hp9 => ?_)
  obtain ⟨ea9, eb9, ec9, hv9⟩ := hp9
  cases ea9
  obtain rfl := eb9.symm
  obtain rfl := ec9.symm
  cases hv9
  try simp (disch := omega) only [nI_lit, pk_mul, nI_add, pk_sub, pk_rem4, nI_clamp, up2_o, up2_s, up2_i, cpV_o, cpV_i]
  refine fs_if_eq (pc2 := 8) rfl rfl rfl (fun h5 => ?_) (fun h5 => ?_)
  · refine fs_iconst (pc2 := 23) rfl rfl rfl ?_
    try simp (disch := omega) only [nI_lit, pk_mul, nI_add, pk_sub, pk_rem4, nI_clamp, up2_o, up2_s, up2_i, cpV_o, cpV_i]
    refine fs_callv (pc2 := 26) rfl rfl rfl rfl ⟨rfl, rfl⟩ (Nat.le_of_ble_eq_true rfl) (Nat.le_of_ble_eq_true rfl) (Nat.le_of_ble_eq_true rfl) (fs_rcv rfl (by assumption)) (m_refusedE hm (w := nI 1)) (fun v9 sh9 V9 n9 hp9 => ?_)
    obtain ⟨ea9, eb9, ec9, hv9⟩ := hp9
    cases ea9
    obtain rfl := eb9.symm
    obtain rfl := ec9.symm
    cases hv9
    rw [rf1]
    try simp (disch := omega) only [nI_lit, pk_mul, nI_add, pk_sub, pk_rem4, nI_clamp, up2_o, up2_s, up2_i, cpV_o, cpV_i]
    refine fs_if_eq (pc2 := 29) rfl rfl rfl (fun h26 => ?_) (fun h26 => ?_)
    · exact absurd h26 (by decide)
    · refine fs_iconst (pc2 := 30) rfl rfl rfl ?_
      try simp (disch := omega) only [nI_lit, pk_mul, nI_add, pk_sub, pk_rem4, nI_clamp, up2_o, up2_s, up2_i, cpV_o, cpV_i]
      refine fs_iret rfl rfl True.intro ?_
      exact hP _ _ _ _ ⟨rfl, rfl, rfl, rfl⟩
  · have k5 : isHostM u = true := bI_t h5
    refine fs_iload_n (pc2 := 9) rfl rfl rfl rfl ?_
    refine fs_iconst (pc2 := 10) rfl rfl rfl ?_
    refine fs_bipush (pc2 := 12) rfl rfl rfl ?_
    try simp (disch := omega) only [nI_lit, pk_mul, nI_add, pk_sub, pk_rem4, nI_clamp, up2_o, up2_s, up2_i, cpV_o, cpV_i]
    refine fs_calls (pc2 := 15) rfl rfl rfl rfl rfl rfl ⟨rfl, rfl⟩ (Nat.le_of_ble_eq_true rfl) (Nat.le_of_ble_eq_true rfl) (Nat.le_of_ble_eq_true rfl) (m_isIn (u := w) (a := nI 0) (b := nI 6)) (fun v9 sh9 V9 n9 hp9 => ?_)
    obtain ⟨ea9, eb9, ec9, hv9⟩ := hp9
    cases ea9
    obtain rfl := eb9.symm
    obtain rfl := ec9.symm
    cases hv9
    try simp (disch := omega) only [nI_lit, pk_mul, nI_add, pk_sub, pk_rem4, nI_clamp, up2_o, up2_s, up2_i, cpV_o, cpV_i]
    refine fs_if_eq (pc2 := 18) rfl rfl rfl (fun h15 => ?_) (fun h15 => ?_)
    · refine fs_iconst (pc2 := 23) rfl rfl rfl ?_
      try simp (disch := omega) only [nI_lit, pk_mul, nI_add, pk_sub, pk_rem4, nI_clamp, up2_o, up2_s, up2_i, cpV_o, cpV_i]
      refine fs_callv (pc2 := 26) rfl rfl rfl rfl ⟨rfl, rfl⟩ (Nat.le_of_ble_eq_true rfl) (Nat.le_of_ble_eq_true rfl) (Nat.le_of_ble_eq_true rfl) (fs_rcv rfl (by assumption)) (m_refusedE hm (w := nI 1)) (fun v9 sh9 V9 n9 hp9 => ?_)
      obtain ⟨ea9, eb9, ec9, hv9⟩ := hp9
      cases ea9
      obtain rfl := eb9.symm
      obtain rfl := ec9.symm
      cases hv9
      rw [rf1]
      try simp (disch := omega) only [nI_lit, pk_mul, nI_add, pk_sub, pk_rem4, nI_clamp, up2_o, up2_s, up2_i, cpV_o, cpV_i]
      refine fs_if_eq (pc2 := 29) rfl rfl rfl (fun h26 => ?_) (fun h26 => ?_)
      · exact absurd h26 (by decide)
      · refine fs_iconst (pc2 := 30) rfl rfl rfl ?_
        try simp (disch := omega) only [nI_lit, pk_mul, nI_add, pk_sub, pk_rem4, nI_clamp, up2_o, up2_s, up2_i, cpV_o, cpV_i]
        refine fs_iret rfl rfl True.intro ?_
        exact hP _ _ _ _ ⟨rfl, rfl, rfl, rfl⟩
    · have k15 : isInB w (nI 0) (nI 6) = true := bI_t h15
      rw [k5, k15] at hno
      cases hno
set_option maxRecDepth 100000 in
set_option maxHeartbeats 4000000 in
theorem m_send_no1 (hm : isMo sh mb) {u w : Int32} (hno : (isHostM u && isInB w 64 67 && true) = false) : fl_M cy z0 ext (d + 4) m_X7_send [.ref (z0 + mb), .int u, .int w] sh V n (fun v sh' V' n' => v = some (.int (nI 0)) ∧ sh' = sh ∧ n' = n ∧ V' = up2 V mb 0 (nI 1)) := by
  have m0 := hm.1
  have a1 : sh (mb + 1) = some (.inl (1, 120, none)) := hm.2 0 (1, 120) rfl
  have a11 : sh (mb + 11) = some (.inl (1, 8, none)) := hm.2 10 (1, 8) rfl
  have a15 : sh (mb + 15) = some (.inl (1, 8, none)) := hm.2 14 (1, 8) rfl
  have a16 : sh (mb + 16) = some (.inl (1, 16, none)) := hm.2 15 (1, 16) rfl
  have a17 : sh (mb + 17) = some (.inl (1, 1920, none)) := hm.2 16 (1, 1920) rfl
  refine fs_body rfl rfl (fun Ret hP => ?_)
  refine fs_aload_n (pc2 := 1) rfl rfl rfl rfl ?_
  refine fs_aload_n (pc2 := 2) rfl rfl rfl rfl ?_
  refine fs_iload_n (pc2 := 3) rfl rfl rfl rfl ?_
  refine fs_iload_n (pc2 := 4) rfl rfl rfl rfl ?_
  refine fs_iconst (pc2 := 5) rfl rfl rfl ?_
  try simp (disch := omega) only [nI_lit, pk_mul, nI_add, pk_sub, pk_rem4, nI_clamp, up2_o, up2_s, up2_i, cpV_o, cpV_i]
  refine fs_callv (pc2 := 8) rfl rfl rfl rfl ⟨rfl, rfl⟩ (Nat.le_of_ble_eq_true rfl) (Nat.le_of_ble_eq_true rfl) (Nat.le_of_ble_eq_true rfl) (fs_rcv rfl (by assumption)) (m_wrong1 hm (b := true) hno) (fun v9 sh9 V9 n9 hp9 => ?_)
  obtain ⟨ea9, eb9, ec9, hv9⟩ := hp9
  cases ea9
  obtain rfl := eb9.symm
  obtain rfl := ec9.symm
  cases hv9
  try simp (disch := omega) only [nI_lit, pk_mul, nI_add, pk_sub, pk_rem4, nI_clamp, up2_o, up2_s, up2_i, cpV_o, cpV_i]
  refine fs_callv (pc2 := 11) rfl rfl rfl rfl ⟨rfl, rfl⟩ (Nat.le_of_ble_eq_true rfl) (Nat.le_of_ble_eq_true rfl) (Nat.le_of_ble_eq_true rfl) (fs_rcv rfl (by assumption)) (m_refusedE hm (w := nI 1)) (fun v9 sh9 V9 n9 hp9 => ?_)
  obtain ⟨ea9, eb9, ec9, hv9⟩ := hp9
  cases ea9
  obtain rfl := eb9.symm
  obtain rfl := ec9.symm
  cases hv9
  rw [rf1]
  try simp (disch := omega) only [nI_lit, pk_mul, nI_add, pk_sub, pk_rem4, nI_clamp, up2_o, up2_s, up2_i, cpV_o, cpV_i]
  refine fs_if_eq (pc2 := 14) rfl rfl rfl (fun h11 => ?_) (fun h11 => ?_)
  · exact absurd h11 (by decide)
  · refine fs_iconst (pc2 := 15) rfl rfl rfl ?_
    try simp (disch := omega) only [nI_lit, pk_mul, nI_add, pk_sub, pk_rem4, nI_clamp, up2_o, up2_s, up2_i, cpV_o, cpV_i]
    refine fs_iret rfl rfl True.intro ?_
    exact hP _ _ _ _ ⟨rfl, rfl, rfl, rfl⟩
set_option maxRecDepth 100000 in
set_option maxHeartbeats 4000000 in
theorem m_send_no2 (hm : isMo sh mb) (hM : Mo V mb T S (va_up HH h H)) (hh : h < 2) (hk : k < 4) (hst : (H.2.1 k).1 1 ≠ 2) : fl_M cy z0 ext (d + 4) m_X7_send [.ref (z0 + mb), .int (nI h), .int (nI (64 + k))] sh V n (fun v sh' V' n' => v = some (.int (nI 0)) ∧ sh' = sh ∧ n' = n ∧ V' = up2 V mb 0 (nI 2)) := by
  have m0 := hm.1
  have a1 : sh (mb + 1) = some (.inl (1, 120, none)) := hm.2 0 (1, 120) rfl
  have a11 : sh (mb + 11) = some (.inl (1, 8, none)) := hm.2 10 (1, 8) rfl
  have a15 : sh (mb + 15) = some (.inl (1, 8, none)) := hm.2 14 (1, 8) rfl
  have a16 : sh (mb + 16) = some (.inl (1, 16, none)) := hm.2 15 (1, 16) rfl
  have a17 : sh (mb + 17) = some (.inl (1, 1920, none)) := hm.2 16 (1, 1920) rfl
  refine fs_body rfl rfl (fun Ret hP => ?_)
  refine fs_aload_n (pc2 := 1) rfl rfl rfl rfl ?_
  refine fs_aload_n (pc2 := 2) rfl rfl rfl rfl ?_
  refine fs_iload_n (pc2 := 3) rfl rfl rfl rfl ?_
  refine fs_iload_n (pc2 := 4) rfl rfl rfl rfl ?_
  refine fs_iconst (pc2 := 5) rfl rfl rfl ?_
  try simp (disch := omega) only [nI_lit, pk_mul, nI_add, pk_sub, pk_rem4, nI_clamp, up2_o, up2_s, up2_i, cpV_o, cpV_i]
  refine fs_callv (pc2 := 8) rfl rfl rfl rfl ⟨rfl, rfl⟩ (Nat.le_of_ble_eq_true rfl) (Nat.le_of_ble_eq_true rfl) (Nat.le_of_ble_eq_true rfl) (fs_rcv rfl (by assumption)) (m_wrongS hm hM hh hk) (fun v9 sh9 V9 n9 hp9 => ?_)
  obtain ⟨ea9, eb9, ec9, hv9⟩ := hp9
  cases ea9
  obtain rfl := eb9.symm
  obtain rfl := ec9.symm
  cases hv9
  rw [if_neg hst]
  try simp (disch := omega) only [nI_lit, pk_mul, nI_add, pk_sub, pk_rem4, nI_clamp, up2_o, up2_s, up2_i, cpV_o, cpV_i]
  refine fs_callv (pc2 := 11) rfl rfl rfl rfl ⟨rfl, rfl⟩ (Nat.le_of_ble_eq_true rfl) (Nat.le_of_ble_eq_true rfl) (Nat.le_of_ble_eq_true rfl) (fs_rcv rfl (by assumption)) (m_refusedE hm (w := nI 2)) (fun v9 sh9 V9 n9 hp9 => ?_)
  obtain ⟨ea9, eb9, ec9, hv9⟩ := hp9
  cases ea9
  obtain rfl := eb9.symm
  obtain rfl := ec9.symm
  cases hv9
  rw [rf2]
  try simp (disch := omega) only [nI_lit, pk_mul, nI_add, pk_sub, pk_rem4, nI_clamp, up2_o, up2_s, up2_i, cpV_o, cpV_i]
  refine fs_if_eq (pc2 := 14) rfl rfl rfl (fun h11 => ?_) (fun h11 => ?_)
  · exact absurd h11 (by decide)
  · refine fs_iconst (pc2 := 15) rfl rfl rfl ?_
    try simp (disch := omega) only [nI_lit, pk_mul, nI_add, pk_sub, pk_rem4, nI_clamp, up2_o, up2_s, up2_i, cpV_o, cpV_i]
    refine fs_iret rfl rfl True.intro ?_
    exact hP _ _ _ _ ⟨rfl, rfl, rfl, rfl⟩
set_option maxRecDepth 100000 in
set_option maxHeartbeats 4000000 in
theorem m_leave_no1 (hm : isMo sh mb) {u w : Int32} (hno : (isHostM u && isInB w 64 67 && true) = false) : fl_M cy z0 ext (d + 4) m_X7_leave [.ref (z0 + mb), .int u, .int w] sh V n (fun v sh' V' n' => v = none ∧ sh' = sh ∧ n' = n ∧ V' = up2 V mb 0 (nI 1)) := by
  have m0 := hm.1
  refine fs_body rfl rfl (fun Ret hP => ?_)
  refine fs_aload_n (pc2 := 1) rfl rfl rfl rfl ?_
  refine fs_aload_n (pc2 := 2) rfl rfl rfl rfl ?_
  refine fs_iload_n (pc2 := 3) rfl rfl rfl rfl ?_
  refine fs_iload_n (pc2 := 4) rfl rfl rfl rfl ?_
  refine fs_iconst (pc2 := 5) rfl rfl rfl ?_
  try simp (disch := omega) only [nI_lit, pk_mul, nI_add, pk_sub, pk_rem4, nI_clamp, up2_o, up2_s, up2_i, cpV_o, cpV_i]
  refine fs_callv (pc2 := 8) rfl rfl rfl rfl ⟨rfl, rfl⟩ (Nat.le_of_ble_eq_true rfl) (Nat.le_of_ble_eq_true rfl) (Nat.le_of_ble_eq_true rfl) (fs_rcv rfl (by assumption)) (m_wrong1 hm (b := true) hno) (fun v9 sh9 V9 n9 hp9 => ?_)
  obtain ⟨ea9, eb9, ec9, hv9⟩ := hp9
  cases ea9
  obtain rfl := eb9.symm
  obtain rfl := ec9.symm
  cases hv9
  try simp (disch := omega) only [nI_lit, pk_mul, nI_add, pk_sub, pk_rem4, nI_clamp, up2_o, up2_s, up2_i, cpV_o, cpV_i]
  refine fs_callv (pc2 := 11) rfl rfl rfl rfl ⟨rfl, rfl⟩ (Nat.le_of_ble_eq_true rfl) (Nat.le_of_ble_eq_true rfl) (Nat.le_of_ble_eq_true rfl) (fs_rcv rfl (by assumption)) (m_refusedE hm (w := nI 1)) (fun v9 sh9 V9 n9 hp9 => ?_)
  obtain ⟨ea9, eb9, ec9, hv9⟩ := hp9
  cases ea9
  obtain rfl := eb9.symm
  obtain rfl := ec9.symm
  cases hv9
  rw [rf1]
  try simp (disch := omega) only [nI_lit, pk_mul, nI_add, pk_sub, pk_rem4, nI_clamp, up2_o, up2_s, up2_i, cpV_o, cpV_i]
  refine fs_if_eq (pc2 := 14) rfl rfl rfl (fun h11 => ?_) (fun h11 => ?_)
  · exact absurd h11 (by decide)
  · try simp (disch := omega) only [nI_lit, pk_mul, nI_add, pk_sub, pk_rem4, nI_clamp, up2_o, up2_s, up2_i, cpV_o, cpV_i]
    refine fs_ret rfl rfl ?_
    exact hP _ _ _ _ ⟨rfl, rfl, rfl, rfl⟩
set_option maxRecDepth 100000 in
set_option maxHeartbeats 4000000 in
theorem m_leave_no2 (hm : isMo sh mb) (hM : Mo V mb T S (va_up HH h H)) (hh : h < 2) (hk : k < 4) (hst : (H.2.1 k).1 1 ≠ 2) : fl_M cy z0 ext (d + 4) m_X7_leave [.ref (z0 + mb), .int (nI h), .int (nI (64 + k))] sh V n (fun v sh' V' n' => v = none ∧ sh' = sh ∧ n' = n ∧ V' = up2 V mb 0 (nI 2)) := by
  have m0 := hm.1
  refine fs_body rfl rfl (fun Ret hP => ?_)
  refine fs_aload_n (pc2 := 1) rfl rfl rfl rfl ?_
  refine fs_aload_n (pc2 := 2) rfl rfl rfl rfl ?_
  refine fs_iload_n (pc2 := 3) rfl rfl rfl rfl ?_
  refine fs_iload_n (pc2 := 4) rfl rfl rfl rfl ?_
  refine fs_iconst (pc2 := 5) rfl rfl rfl ?_
  try simp (disch := omega) only [nI_lit, pk_mul, nI_add, pk_sub, pk_rem4, nI_clamp, up2_o, up2_s, up2_i, cpV_o, cpV_i]
  refine fs_callv (pc2 := 8) rfl rfl rfl rfl ⟨rfl, rfl⟩ (Nat.le_of_ble_eq_true rfl) (Nat.le_of_ble_eq_true rfl) (Nat.le_of_ble_eq_true rfl) (fs_rcv rfl (by assumption)) (m_wrongS hm hM hh hk) (fun v9 sh9 V9 n9 hp9 => ?_)
  obtain ⟨ea9, eb9, ec9, hv9⟩ := hp9
  cases ea9
  obtain rfl := eb9.symm
  obtain rfl := ec9.symm
  cases hv9
  rw [if_neg hst]
  try simp (disch := omega) only [nI_lit, pk_mul, nI_add, pk_sub, pk_rem4, nI_clamp, up2_o, up2_s, up2_i, cpV_o, cpV_i]
  refine fs_callv (pc2 := 11) rfl rfl rfl rfl ⟨rfl, rfl⟩ (Nat.le_of_ble_eq_true rfl) (Nat.le_of_ble_eq_true rfl) (Nat.le_of_ble_eq_true rfl) (fs_rcv rfl (by assumption)) (m_refusedE hm (w := nI 2)) (fun v9 sh9 V9 n9 hp9 => ?_)
  obtain ⟨ea9, eb9, ec9, hv9⟩ := hp9
  cases ea9
  obtain rfl := eb9.symm
  obtain rfl := ec9.symm
  cases hv9
  rw [rf2]
  try simp (disch := omega) only [nI_lit, pk_mul, nI_add, pk_sub, pk_rem4, nI_clamp, up2_o, up2_s, up2_i, cpV_o, cpV_i]
  refine fs_if_eq (pc2 := 14) rfl rfl rfl (fun h11 => ?_) (fun h11 => ?_)
  · exact absurd h11 (by decide)
  · try simp (disch := omega) only [nI_lit, pk_mul, nI_add, pk_sub, pk_rem4, nI_clamp, up2_o, up2_s, up2_i, cpV_o, cpV_i]
    refine fs_ret rfl rfl ?_
    exact hP _ _ _ _ ⟨rfl, rfl, rfl, rfl⟩
set_option maxRecDepth 100000 in
set_option maxHeartbeats 4000000 in
theorem m_grant_no1 (hm : isMo sh mb) {u w x : Int32} (hno : (isHostM u && isInB w 64 67 && isInB x (nI 1) (nI 1000)) = false) : fl_M cy z0 ext (d + 4) m_X7_grant [.ref (z0 + mb), .int u, .int w, .int x] sh V n (fun v sh' V' n' => v = some (.int (nI 0)) ∧ sh' = sh ∧ n' = n ∧ V' = up2 V mb 0 (nI 1)) := by
  have m0 := hm.1
  have a9 : sh (mb + 9) = some (.inl (1, 8, none)) := hm.2 8 (1, 8) rfl
  refine fs_body rfl rfl (fun Ret hP => ?_)
  refine fs_aload_n (pc2 := 1) rfl rfl rfl rfl ?_
  refine fs_aload_n (pc2 := 2) rfl rfl rfl rfl ?_
  refine fs_iload_n (pc2 := 3) rfl rfl rfl rfl ?_
  refine fs_iload_n (pc2 := 4) rfl rfl rfl rfl ?_
  refine fs_iload_n (pc2 := 5) rfl rfl rfl rfl ?_
  refine fs_iconst (pc2 := 6) rfl rfl rfl ?_
  refine fs_sipush (pc2 := 9) rfl rfl rfl ?_
  try simp (disch := omega) only [nI_lit, pk_mul, nI_add, pk_sub, pk_rem4, nI_clamp, up2_o, up2_s, up2_i, cpV_o, cpV_i]
  refine fs_calls (pc2 := 12) rfl rfl rfl rfl rfl rfl ⟨rfl, rfl⟩ (Nat.le_of_ble_eq_true rfl) (Nat.le_of_ble_eq_true rfl) (Nat.le_of_ble_eq_true rfl) (m_isIn (u := x) (a := nI 1) (b := nI 1000)) (fun v9 sh9 V9 n9 hp9 => ?_)
  obtain ⟨ea9, eb9, ec9, hv9⟩ := hp9
  cases ea9
  obtain rfl := eb9.symm
  obtain rfl := ec9.symm
  cases hv9
  try simp (disch := omega) only [nI_lit, pk_mul, nI_add, pk_sub, pk_rem4, nI_clamp, up2_o, up2_s, up2_i, cpV_o, cpV_i]
  refine fs_callv (pc2 := 15) rfl rfl rfl rfl ⟨rfl, rfl⟩ (Nat.le_of_ble_eq_true rfl) (Nat.le_of_ble_eq_true rfl) (Nat.le_of_ble_eq_true rfl) (fs_rcv rfl (by assumption)) (m_wrong1 hm (b := isInB x (nI 1) (nI 1000)) hno) (fun v9 sh9 V9 n9 hp9 => ?_)
  obtain ⟨ea9, eb9, ec9, hv9⟩ := hp9
  cases ea9
  obtain rfl := eb9.symm
  obtain rfl := ec9.symm
  cases hv9
  try simp (disch := omega) only [nI_lit, pk_mul, nI_add, pk_sub, pk_rem4, nI_clamp, up2_o, up2_s, up2_i, cpV_o, cpV_i]
  refine fs_callv (pc2 := 18) rfl rfl rfl rfl ⟨rfl, rfl⟩ (Nat.le_of_ble_eq_true rfl) (Nat.le_of_ble_eq_true rfl) (Nat.le_of_ble_eq_true rfl) (fs_rcv rfl (by assumption)) (m_refusedE hm (w := nI 1)) (fun v9 sh9 V9 n9 hp9 => ?_)
  obtain ⟨ea9, eb9, ec9, hv9⟩ := hp9
  cases ea9
  obtain rfl := eb9.symm
  obtain rfl := ec9.symm
  cases hv9
  rw [rf1]
  try simp (disch := omega) only [nI_lit, pk_mul, nI_add, pk_sub, pk_rem4, nI_clamp, up2_o, up2_s, up2_i, cpV_o, cpV_i]
  refine fs_if_eq (pc2 := 21) rfl rfl rfl (fun h18 => ?_) (fun h18 => ?_)
  · exact absurd h18 (by decide)
  · refine fs_iconst (pc2 := 22) rfl rfl rfl ?_
    try simp (disch := omega) only [nI_lit, pk_mul, nI_add, pk_sub, pk_rem4, nI_clamp, up2_o, up2_s, up2_i, cpV_o, cpV_i]
    refine fs_iret rfl rfl True.intro ?_
    exact hP _ _ _ _ ⟨rfl, rfl, rfl, rfl⟩
set_option maxRecDepth 100000 in
set_option maxHeartbeats 4000000 in
theorem m_grant_no2 (hm : isMo sh mb) (hM : Mo V mb T S (va_up HH h H)) (hh : h < 2) (hk : k < 4) (hst : (H.2.1 k).1 1 ≠ 2) {x : Int32} (hx : isInB x (nI 1) (nI 1000) = true) : fl_M cy z0 ext (d + 4) m_X7_grant [.ref (z0 + mb), .int (nI h), .int (nI (64 + k)), .int x] sh V n (fun v sh' V' n' => v = some (.int (nI 0)) ∧ sh' = sh ∧ n' = n ∧ V' = up2 V mb 0 (nI 2)) := by
  have m0 := hm.1
  have a9 : sh (mb + 9) = some (.inl (1, 8, none)) := hm.2 8 (1, 8) rfl
  refine fs_body rfl rfl (fun Ret hP => ?_)
  refine fs_aload_n (pc2 := 1) rfl rfl rfl rfl ?_
  refine fs_aload_n (pc2 := 2) rfl rfl rfl rfl ?_
  refine fs_iload_n (pc2 := 3) rfl rfl rfl rfl ?_
  refine fs_iload_n (pc2 := 4) rfl rfl rfl rfl ?_
  refine fs_iload_n (pc2 := 5) rfl rfl rfl rfl ?_
  refine fs_iconst (pc2 := 6) rfl rfl rfl ?_
  refine fs_sipush (pc2 := 9) rfl rfl rfl ?_
  try simp (disch := omega) only [nI_lit, pk_mul, nI_add, pk_sub, pk_rem4, nI_clamp, up2_o, up2_s, up2_i, cpV_o, cpV_i]
  refine fs_calls (pc2 := 12) rfl rfl rfl rfl rfl rfl ⟨rfl, rfl⟩ (Nat.le_of_ble_eq_true rfl) (Nat.le_of_ble_eq_true rfl) (Nat.le_of_ble_eq_true rfl) (m_isIn (u := x) (a := nI 1) (b := nI 1000)) (fun v9 sh9 V9 n9 hp9 => ?_)
  obtain ⟨ea9, eb9, ec9, hv9⟩ := hp9
  cases ea9
  obtain rfl := eb9.symm
  obtain rfl := ec9.symm
  cases hv9
  rw [hx]
  try simp (disch := omega) only [nI_lit, pk_mul, nI_add, pk_sub, pk_rem4, nI_clamp, up2_o, up2_s, up2_i, cpV_o, cpV_i]
  refine fs_callv (pc2 := 15) rfl rfl rfl rfl ⟨rfl, rfl⟩ (Nat.le_of_ble_eq_true rfl) (Nat.le_of_ble_eq_true rfl) (Nat.le_of_ble_eq_true rfl) (fs_rcv rfl (by assumption)) (m_wrongS hm hM hh hk) (fun v9 sh9 V9 n9 hp9 => ?_)
  obtain ⟨ea9, eb9, ec9, hv9⟩ := hp9
  cases ea9
  obtain rfl := eb9.symm
  obtain rfl := ec9.symm
  cases hv9
  rw [if_neg hst]
  try simp (disch := omega) only [nI_lit, pk_mul, nI_add, pk_sub, pk_rem4, nI_clamp, up2_o, up2_s, up2_i, cpV_o, cpV_i]
  refine fs_callv (pc2 := 18) rfl rfl rfl rfl ⟨rfl, rfl⟩ (Nat.le_of_ble_eq_true rfl) (Nat.le_of_ble_eq_true rfl) (Nat.le_of_ble_eq_true rfl) (fs_rcv rfl (by assumption)) (m_refusedE hm (w := nI 2)) (fun v9 sh9 V9 n9 hp9 => ?_)
  obtain ⟨ea9, eb9, ec9, hv9⟩ := hp9
  cases ea9
  obtain rfl := eb9.symm
  obtain rfl := ec9.symm
  cases hv9
  rw [rf2]
  try simp (disch := omega) only [nI_lit, pk_mul, nI_add, pk_sub, pk_rem4, nI_clamp, up2_o, up2_s, up2_i, cpV_o, cpV_i]
  refine fs_if_eq (pc2 := 21) rfl rfl rfl (fun h18 => ?_) (fun h18 => ?_)
  · exact absurd h18 (by decide)
  · refine fs_iconst (pc2 := 22) rfl rfl rfl ?_
    try simp (disch := omega) only [nI_lit, pk_mul, nI_add, pk_sub, pk_rem4, nI_clamp, up2_o, up2_s, up2_i, cpV_o, cpV_i]
    refine fs_iret rfl rfl True.intro ?_
    exact hP _ _ _ _ ⟨rfl, rfl, rfl, rfl⟩
end MPUB
