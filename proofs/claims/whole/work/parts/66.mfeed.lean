theorem and255 (v : Int32) : v &&& 255 = nI (bt8 v) := by
  apply Int32.toBitVec_inj.mp
  rw [Int32.toBitVec_and]
  apply BitVec.eq_of_toNat_eq
  rw [BitVec.toNat_and]
  show v.toBitVec.toNat &&& 255 = (BitVec.ofNat 32 (bt8 v)).toNat
  rw [BitVec.toNat_ofNat, show (255 : Nat) = 2 ^ 8 - 1 from rfl, Nat.and_two_pow_sub_one_eq_mod]
  unfold bt8
  omega
theorem MC.putT {V : fl_V} {mb c : Nat} {y : Ch} {S : List Nat} {f : Nat → Int32} (hM : MC V mb c y) (hl : y.2.2.1.length < 2) (hs : S.length ≤ 120) (hf : ∀ j, j < S.length → f j = nI (S.getD j 0) ∧ S.getD j 0 < 256) : MC (up2 (cpV (up2 V (mb + 16) (2 * c + y.2.2.1.length) (nI S.length)) (mb + 17) (120 * (2 * c + y.2.2.1.length)) S.length f) (mb + 15) c (nI (y.2.2.1.length + 1))) mb c (txPut y S) := by
  obtain ⟨g1, g1b, g2, g3, g4, g5, g6, g7, g8, g9, g10, g11⟩ := hM
  refine ⟨fun p hp => ?_, g1b, ?_, ?_, ?_, fun q x hq => ?_, ?_, g7, ?_, ?_, g10, fun q x hq => ?_⟩
  · have c2 := chO_2 p hp
    rw [up2_o (by omega), cpV_o (by omega), up2_o (by omega)]; exact g1 p hp
  · rw [up2_o (by omega), cpV_o (by omega), up2_o (by omega)]; exact g2
  · rw [up2_s]; simp [txPut]
  · simp [txPut]; omega
  · unfold txPut at hq
    dsimp only at hq
    have lq := (List.getElem?_eq_some_iff.mp hq).1
    simp at lq
    simp (disch := omega) only [up2_o, cpV_o]
    by_cases z : q < y.2.2.1.length
    · rw [List.getElem?_append_left z] at hq
      obtain ⟨a1, a2, a3, a4, a5⟩ := g5 q x hq
      rw [up2_i (by omega)]
      refine ⟨a1, a2, a3, a4, a5.kept (fun j hj => ?_)⟩
      simp only [List.length_drop] at hj
      rw [cpV_i (by omega), up2_o (by omega)]
    · have e : q = y.2.2.1.length := by omega
      subst e
      simp at hq
      subst hq
      refine ⟨by rw [up2_s]; simp, by simp, by simp; omega, by simp [two], fun j b hj => ?_⟩
      have hj2 : S[j]? = some b := by simpa using hj
      have lj := (List.getElem?_eq_some_iff.mp hj2).1
      obtain ⟨a1, a2⟩ := hf j lj
      rw [List.getD_eq_getElem?_getD, hj2] at a1 a2
      rw [cpV_s (by omega), Nat.add_sub_cancel_left]
      exact ⟨a1, a2⟩
  · rw [up2_o (by omega), cpV_o (by omega), up2_o (by omega)]; exact g6
  · rw [up2_o (by omega), cpV_o (by omega), up2_o (by omega)]; exact g8
  · rw [up2_o (by omega), cpV_o (by omega), up2_o (by omega)]; exact g9
  · rw [up2_o (by omega), cpV_o (by omega), up2_o (by omega), up2_o (by omega), cpV_o (by omega), up2_o (by omega)]; exact g11 q x hq
section MFEED
variable {cy : Nat → ClassId} {z0 : Nat} {ext : Nat → Nat → List Value → ev_H → Nat → ev_P → Prop} {d : Nat} {sh : fl_S} {V : fl_V} {n mb : Nat} {T : Nat → Nat} {S : List Nat} {HH : Nat → Ho} {H : Ho} {h k : Nat}
set_option maxRecDepth 100000 in
set_option maxHeartbeats 4000000 in
theorem m_feed_no1 (hm : isMo sh mb) {u ca cb cc cd : Int32} (hno : isInB u (nI 0) (nI 16) = false) : fl_M cy z0 ext (d + 3) m_X7_feed [.ref (z0 + mb), .int u, .int ca, .int cb, .int cc, .int cd] sh V n (fun v sh' V' n' => v = some (.int (nI 0)) ∧ sh' = sh ∧ n' = n ∧ V' = up2 V mb 0 (nI 1)) := by
  have m0 := hm.1
  have a1 : sh (mb + 1) = some (.inl (1, 120, none)) := hm.2 0 (1, 120) rfl
  refine fs_body rfl rfl (fun Ret hP => ?_)
  refine fs_aload_n (pc2 := 1) rfl rfl rfl rfl ?_
  refine fs_iload_n (pc2 := 2) rfl rfl rfl rfl ?_
  refine fs_iconst (pc2 := 3) rfl rfl rfl ?_
  refine fs_bipush (pc2 := 5) rfl rfl rfl ?_
  try simp (disch := omega) only [nI_lit, pk_mul, nI_add, pk_sub, pk_rem4, nI_clamp, up2_o, up2_s, up2_i, cpV_o, cpV_i]
  refine fs_calls (pc2 := 8) rfl rfl rfl rfl rfl rfl ⟨rfl, rfl⟩ (Nat.le_of_ble_eq_true rfl) (Nat.le_of_ble_eq_true rfl) (Nat.le_of_ble_eq_true rfl) (m_isIn (u := u) (a := nI 0) (b := nI 16)) (fun v9 sh9 V9 n9 hp9 => ?_)
  obtain ⟨ea9, eb9, ec9, hv9⟩ := hp9
  cases ea9
  obtain rfl := eb9.symm
  obtain rfl := ec9.symm
  cases hv9
  rw [hno]
  try simp (disch := omega) only [nI_lit, pk_mul, nI_add, pk_sub, pk_rem4, nI_clamp, up2_o, up2_s, up2_i, cpV_o, cpV_i]
  refine fs_if_ne (pc2 := 11) rfl rfl rfl (fun h8 => ?_) (fun h8 => ?_)
  · first | exact absurd h8 (by decide) | exact absurd (by decide) h8
  · refine fs_iconst (pc2 := 12) rfl rfl rfl ?_
    refine fs_goto rfl rfl ?_
    try simp (disch := omega) only [nI_lit, pk_mul, nI_add, pk_sub, pk_rem4, nI_clamp, up2_o, up2_s, up2_i, cpV_o, cpV_i]
    refine fs_callv (pc2 := 34) rfl rfl rfl rfl ⟨rfl, rfl⟩ (Nat.le_of_ble_eq_true rfl) (Nat.le_of_ble_eq_true rfl) (Nat.le_of_ble_eq_true rfl) (fs_rcv rfl (by assumption)) (m_refusedE hm (w := nI 1)) (fun v9 sh9 V9 n9 hp9 => ?_)
    obtain ⟨ea9, eb9, ec9, hv9⟩ := hp9
    cases ea9
    obtain rfl := eb9.symm
    obtain rfl := ec9.symm
    cases hv9
    rw [rf1]
    try simp (disch := omega) only [nI_lit, pk_mul, nI_add, pk_sub, pk_rem4, nI_clamp, up2_o, up2_s, up2_i, cpV_o, cpV_i]
    refine fs_if_eq (pc2 := 37) rfl rfl rfl (fun h34 => ?_) (fun h34 => ?_)
    · first | exact absurd h34 (by decide) | exact absurd (by decide) h34
    · refine fs_iconst (pc2 := 38) rfl rfl rfl ?_
      try simp (disch := omega) only [nI_lit, pk_mul, nI_add, pk_sub, pk_rem4, nI_clamp, up2_o, up2_s, up2_i, cpV_o, cpV_i]
      refine fs_iret rfl rfl True.intro ?_
      exact hP _ _ _ _ ⟨rfl, rfl, rfl, rfl⟩
set_option maxRecDepth 100000 in
set_option maxHeartbeats 4000000 in
theorem m_feed_no2 (hm : isMo sh mb) (hM : Mo V mb T S HH) {m : Nat} {ca cb cc cd : Int32} (hm16 : m ≤ 16) (hfit : 120 < S.length + m) : fl_M cy z0 ext (d + 3) m_X7_feed [.ref (z0 + mb), .int (nI m), .int ca, .int cb, .int cc, .int cd] sh V n (fun v sh' V' n' => v = some (.int (nI 0)) ∧ sh' = sh ∧ n' = n ∧ V' = up2 V mb 0 (nI 2)) := by
  have m0 := hm.1
  have a1 : sh (mb + 1) = some (.inl (1, 120, none)) := hm.2 0 (1, 120) rfl
  have e2 := hM.1.1
  have l2 := hM.1.2.1
  have hIn : isInB (nI m) (nI 0) (nI 16) = true := by rw [isInB_nI (by omega) (by decide) (by decide)]; exact decide_eq_true (by omega)
  refine fs_body rfl rfl (fun Ret hP => ?_)
  refine fs_aload_n (pc2 := 1) rfl rfl rfl rfl ?_
  refine fs_iload_n (pc2 := 2) rfl rfl rfl rfl ?_
  refine fs_iconst (pc2 := 3) rfl rfl rfl ?_
  refine fs_bipush (pc2 := 5) rfl rfl rfl ?_
  try simp (disch := omega) only [nI_lit, pk_mul, nI_add, pk_sub, pk_rem4, nI_clamp, up2_o, up2_s, up2_i, cpV_o, cpV_i, e2]
  refine fs_calls (pc2 := 8) rfl rfl rfl rfl rfl rfl ⟨rfl, rfl⟩ (Nat.le_of_ble_eq_true rfl) (Nat.le_of_ble_eq_true rfl) (Nat.le_of_ble_eq_true rfl) (m_isIn (u := nI m) (a := nI 0) (b := nI 16)) (fun v9 sh9 V9 n9 hp9 => ?_)
  obtain ⟨ea9, eb9, ec9, hv9⟩ := hp9
  cases ea9
  obtain rfl := eb9.symm
  obtain rfl := ec9.symm
  cases hv9
  rw [hIn]
  try simp (disch := omega) only [nI_lit, pk_mul, nI_add, pk_sub, pk_rem4, nI_clamp, up2_o, up2_s, up2_i, cpV_o, cpV_i, e2]
  refine fs_if_ne (pc2 := 11) rfl rfl rfl (fun h8 => ?_) (fun h8 => ?_)
  · refine fs_aload_n (pc2 := 16) rfl rfl rfl rfl ?_
    refine fs_geti (pc2 := 19) rfl rfl rfl (by assumption) rfl ?_
    refine fs_iload_n (pc2 := 20) rfl rfl rfl rfl ?_
    refine fs_iadd (pc2 := 21) rfl rfl rfl ?_
    refine fs_bipush (pc2 := 23) rfl rfl rfl ?_
    try simp (disch := omega) only [nI_lit, pk_mul, nI_add, pk_sub, pk_rem4, nI_clamp, up2_o, up2_s, up2_i, cpV_o, cpV_i, e2]
    refine fs_icmp_le (pc2 := 26) rfl rfl rfl (fun h23 => ?_) (fun h23 => ?_)
    · have := c_le (b := 120) h23 rfl rfl
      omega
    · refine fs_iconst (pc2 := 27) rfl rfl rfl ?_
      refine fs_goto rfl rfl ?_
      try simp (disch := omega) only [nI_lit, pk_mul, nI_add, pk_sub, pk_rem4, nI_clamp, up2_o, up2_s, up2_i, cpV_o, cpV_i, e2]
      refine fs_callv (pc2 := 34) rfl rfl rfl rfl ⟨rfl, rfl⟩ (Nat.le_of_ble_eq_true rfl) (Nat.le_of_ble_eq_true rfl) (Nat.le_of_ble_eq_true rfl) (fs_rcv rfl (by assumption)) (m_refusedE hm (w := nI 2)) (fun v9 sh9 V9 n9 hp9 => ?_)
      obtain ⟨ea9, eb9, ec9, hv9⟩ := hp9
      cases ea9
      obtain rfl := eb9.symm
      obtain rfl := ec9.symm
      cases hv9
      rw [rf2]
      try simp (disch := omega) only [nI_lit, pk_mul, nI_add, pk_sub, pk_rem4, nI_clamp, up2_o, up2_s, up2_i, cpV_o, cpV_i, e2]
      refine fs_if_eq (pc2 := 37) rfl rfl rfl (fun h34 => ?_) (fun h34 => ?_)
      · first | exact absurd h34 (by decide) | exact absurd (by decide) h34
      · refine fs_iconst (pc2 := 38) rfl rfl rfl ?_
        try simp (disch := omega) only [nI_lit, pk_mul, nI_add, pk_sub, pk_rem4, nI_clamp, up2_o, up2_s, up2_i, cpV_o, cpV_i, e2]
        refine fs_iret rfl rfl True.intro ?_
        exact hP _ _ _ _ ⟨rfl, rfl, rfl, rfl⟩
  · first | exact absurd h8 (by decide) | exact absurd (by decide) h8
set_option maxRecDepth 100000 in
set_option maxHeartbeats 4000000 in
theorem m_feed (hm : isMo sh mb) (hM : Mo V mb T S HH) {m : Nat} {ca cb cc cd : Int32} (hm16 : m ≤ 16) (hfit : S.length + m ≤ 120) : fl_M cy z0 ext (d + 3) m_X7_feed [.ref (z0 + mb), .int (nI m), .int ca, .int cb, .int cc, .int cd] sh V n (fun v sh' V' n' => v = some (.int (nI (S.length + m))) ∧ sh' = sh ∧ n' = n ∧ Mo V' mb T (S ++ (List.range m).map (fbyte ca cb cc cd)) HH ∧ V' mb 0 = nI 0 ∧ OU mb V V') := by
  have m0 := hm.1
  have a1 : sh (mb + 1) = some (.inl (1, 120, none)) := hm.2 0 (1, 120) rfl
  have e2 := hM.1.1
  have l2 := hM.1.2.1
  have hIn : isInB (nI m) (nI 0) (nI 16) = true := by rw [isInB_nI (by omega) (by decide) (by decide)]; exact decide_eq_true (by omega)
  refine fs_body rfl rfl (fun Ret hP => ?_)
  have loop : ∀ j i (V1 : fl_V) (T7 : List (Nat × Value)), i + j = m → Mo V1 mb T (S ++ (List.range i).map (fbyte ca cb cc cd)) HH → V1 mb 0 = nI 0 → OU mb V V1 → (T7 = [] ∨ ∃ q, T7 = [(7, .int q)]) → fl_R cy z0 (ev_M cy ext (d + 2)) 7 0 0 8 (some .int) kc_X7_feed Ret 42 ([(0, .ref (z0 + mb)), (1, .int (nI m)), (2, .int ca), (3, .int cb), (4, .int cc), (5, .int cd), (6, .int (nI i))] ++ T7) [] sh V1 n 0 0 := by
    intro j
    induction j with
    | zero =>
      intro i V1 T7 hi hM1 hf hO hT7
      have hi2 : i = m := by omega
      subst hi2
      have f2 : V1 mb 2 = nI (S.length + i) := by rw [hM1.1.1]; congr 1; simp
      rcases hT7 with rfl | ⟨q7, rfl⟩
      · refine fs_iload (pc2 := 44) rfl rfl rfl rfl ?_
        refine fs_iload_n (pc2 := 45) rfl rfl rfl rfl ?_
        try simp (disch := omega) only [nI_lit, pk_mul, nI_add, pk_sub, pk_rem4, nI_clamp, up2_o, up2_s, up2_i, cpV_o, cpV_i, f2]
        refine fs_icmp_ge (pc2 := 48) rfl rfl rfl (fun h45 => ?_) (fun h45 => ?_)
        · refine fs_aload_n (pc2 := 128) rfl rfl rfl rfl ?_
          refine fs_geti (pc2 := 131) rfl rfl rfl (by assumption) rfl ?_
          try simp (disch := omega) only [nI_lit, pk_mul, nI_add, pk_sub, pk_rem4, nI_clamp, up2_o, up2_s, up2_i, cpV_o, cpV_i, f2]
          refine fs_iret rfl rfl True.intro ?_
          exact hP _ _ _ _ ⟨rfl, rfl, rfl, hM1, hf, hO⟩
        · have := c_lt (a := i) (b := i) h45 rfl rfl
          omega
      · refine fs_iload (pc2 := 44) rfl rfl rfl rfl ?_
        refine fs_iload_n (pc2 := 45) rfl rfl rfl rfl ?_
        try simp (disch := omega) only [nI_lit, pk_mul, nI_add, pk_sub, pk_rem4, nI_clamp, up2_o, up2_s, up2_i, cpV_o, cpV_i, f2]
        refine fs_icmp_ge (pc2 := 48) rfl rfl rfl (fun h45 => ?_) (fun h45 => ?_)
        · refine fs_aload_n (pc2 := 128) rfl rfl rfl rfl ?_
          refine fs_geti (pc2 := 131) rfl rfl rfl (by assumption) rfl ?_
          try simp (disch := omega) only [nI_lit, pk_mul, nI_add, pk_sub, pk_rem4, nI_clamp, up2_o, up2_s, up2_i, cpV_o, cpV_i, f2]
          refine fs_iret rfl rfl True.intro ?_
          exact hP _ _ _ _ ⟨rfl, rfl, rfl, hM1, hf, hO⟩
        · have := c_lt (a := i) (b := i) h45 rfl rfl
          omega
    | succ j ih =>
      intro i V1 T7 hi hM1 hf hO hT7
      have f2 : V1 mb 2 = nI (S.length + i) := by rw [hM1.1.1]; congr 1; simp
      have ln : (S ++ (List.range i).map (fbyte ca cb cc cd)).length = S.length + i := by simp
      have er : (24 : Int32) - 8 * nI (i % 4) = nI (24 - 8 * (i % 4)) := by rw [show (24 : Int32) = nI 24 from rfl, show (8 : Int32) = nI 8 from rfl, pk_mul, pk_sub (by omega)]
      have hMS := hM1.1.add (b := fbyte ca cb cc cd i) (bt8_lt _) (by omega)
      rw [ln, List.append_assoc, ← range_map_succ] at hMS
      have hM2 := hM1.putS hMS ((FM.refl.up (j := 1) (by simp [own])).up (j := 0) (i := 2) (by simp [own]))
      have hf2 : up2 (up2 V1 (mb + 1) (S.length + i) (nI (fbyte ca cb cc cd i))) mb 2 (nI (S.length + i + 1)) mb 0 = nI 0 := by simp (disch := omega) only [up2_i, up2_o]; exact hf
      have hO2 : OU mb V (up2 (up2 V1 (mb + 1) (S.length + i) (nI (fbyte ca cb cc cd i))) mb 2 (nI (S.length + i + 1))) := (hO.up (by decide)).up0
      rcases hT7 with rfl | ⟨q7, rfl⟩
      · refine fs_iload (pc2 := 44) rfl rfl rfl rfl ?_
        refine fs_iload_n (pc2 := 45) rfl rfl rfl rfl ?_
        try simp (disch := omega) only [nI_lit, pk_mul, nI_add, pk_sub, pk_rem4, nI_clamp, up2_o, up2_s, up2_i, cpV_o, cpV_i, f2]
        refine fs_icmp_ge (pc2 := 48) rfl rfl rfl (fun h45 => ?_) (fun h45 => ?_)
        · have := c_nlt (a := i) (b := m) h45 rfl rfl
          omega
        · refine fs_iload (pc2 := 50) rfl rfl rfl rfl ?_
          refine fs_iconst (pc2 := 51) rfl rfl rfl ?_
          try simp (disch := omega) only [nI_lit, pk_mul, nI_add, pk_sub, pk_rem4, nI_clamp, up2_o, up2_s, up2_i, cpV_o, cpV_i, f2]
          refine fs_icmp_ge (pc2 := 54) rfl rfl rfl (fun h51 => ?_) (fun h51 => ?_)
          · have k51 : 4 ≤ i := c_nlt (b := 4) h51 rfl rfl
            refine fs_iload (pc2 := 60) rfl rfl rfl rfl ?_
            refine fs_bipush (pc2 := 62) rfl rfl rfl ?_
            try simp (disch := omega) only [nI_lit, pk_mul, nI_add, pk_sub, pk_rem4, nI_clamp, up2_o, up2_s, up2_i, cpV_o, cpV_i, f2]
            refine fs_icmp_ge (pc2 := 65) rfl rfl rfl (fun h62 => ?_) (fun h62 => ?_)
            · have k62 : 8 ≤ i := c_nlt (b := 8) h62 rfl rfl
              refine fs_iload (pc2 := 71) rfl rfl rfl rfl ?_
              refine fs_bipush (pc2 := 73) rfl rfl rfl ?_
              try simp (disch := omega) only [nI_lit, pk_mul, nI_add, pk_sub, pk_rem4, nI_clamp, up2_o, up2_s, up2_i, cpV_o, cpV_i, f2]
              refine fs_icmp_ge (pc2 := 76) rfl rfl rfl (fun h73 => ?_) (fun h73 => ?_)
              · have k73 : 12 ≤ i := c_nlt (b := 12) h73 rfl rfl
                refine fs_iload (pc2 := 83) rfl rfl rfl rfl ?_
                refine fs_istore (pc2 := 85) rfl rfl rfl (Nat.le_of_ble_eq_true rfl) ?_
                refine fs_aload_n (pc2 := 86) rfl rfl rfl rfl ?_
                refine fs_getr (pc2 := 89) rfl rfl rfl (by assumption) rfl ?_
                refine fs_aload_n (pc2 := 90) rfl rfl rfl rfl ?_
                refine fs_geti (pc2 := 93) rfl rfl rfl (by assumption) rfl ?_
                refine fs_iload (pc2 := 95) rfl rfl rfl rfl ?_
                refine fs_bipush (pc2 := 97) rfl rfl rfl ?_
                refine fs_bipush (pc2 := 99) rfl rfl rfl ?_
                refine fs_iload (pc2 := 101) rfl rfl rfl rfl ?_
                refine fs_iconst (pc2 := 102) rfl rfl rfl ?_
                refine fs_irem (pc2 := 103) rfl rfl rfl (by decide) ?_
                refine fs_imul (pc2 := 104) rfl rfl rfl ?_
                refine fs_isub (pc2 := 105) rfl rfl rfl ?_
                refine fs_ishr (pc2 := 106) rfl rfl rfl ?_
                refine fs_sipush (pc2 := 109) rfl rfl rfl ?_
                refine fs_iand (pc2 := 110) rfl rfl rfl ?_
                try simp (disch := omega) only [nI_lit, pk_mul, nI_add, pk_sub, pk_rem4, nI_clamp, up2_o, up2_s, up2_i, cpV_o, cpV_i, f2]
                refine fs_iast (pc2 := 111) rfl rfl rfl (by assumption) (vp_in_nI (by omega) (by decide)) ?_
                refine fs_aload_n (pc2 := 112) rfl rfl rfl rfl ?_
                first | refine fs_dup_r (pc2 := 113) rfl rfl rfl ?_ | refine fs_dup_i (pc2 := 113) rfl rfl rfl ?_
                refine fs_geti (pc2 := 116) rfl rfl rfl (by assumption) rfl ?_
                refine fs_iconst (pc2 := 117) rfl rfl rfl ?_
                refine fs_iadd (pc2 := 118) rfl rfl rfl ?_
                refine fs_puti (pc2 := 121) rfl rfl rfl (by assumption) rfl True.intro ?_
                refine fs_iinc (pc2 := 124) rfl rfl rfl (Nat.le_of_ble_eq_true rfl) rfl ?_
                refine fs_goto rfl rfl ?_
                try simp (disch := omega) only [nI_lit, pk_mul, nI_add, pk_sub, pk_rem4, nI_clamp, up2_o, up2_s, up2_i, cpV_o, cpV_i, f2]
                have eb : cd >>> (nI (24 - 8 * (i % 4)) &&& nI 31) &&& nI 255 = nI (fbyte ca cb cc cd i) := by
                  unfold fbyte
                  rw [if_neg (by omega), if_neg (by omega), if_neg (by omega), er]
                  exact and255 _
                rw [eb]
                exact ih (i + 1) _ _ (by omega) hM2 hf2 hO2 (Or.inr ⟨_, rfl⟩)
              · have k73 : i < 12 := c_lt (b := 12) h73 rfl rfl
                refine fs_iload (pc2 := 78) rfl rfl rfl rfl ?_
                refine fs_goto rfl rfl ?_
                refine fs_istore (pc2 := 85) rfl rfl rfl (Nat.le_of_ble_eq_true rfl) ?_
                refine fs_aload_n (pc2 := 86) rfl rfl rfl rfl ?_
                refine fs_getr (pc2 := 89) rfl rfl rfl (by assumption) rfl ?_
                refine fs_aload_n (pc2 := 90) rfl rfl rfl rfl ?_
                refine fs_geti (pc2 := 93) rfl rfl rfl (by assumption) rfl ?_
                refine fs_iload (pc2 := 95) rfl rfl rfl rfl ?_
                refine fs_bipush (pc2 := 97) rfl rfl rfl ?_
                refine fs_bipush (pc2 := 99) rfl rfl rfl ?_
                refine fs_iload (pc2 := 101) rfl rfl rfl rfl ?_
                refine fs_iconst (pc2 := 102) rfl rfl rfl ?_
                refine fs_irem (pc2 := 103) rfl rfl rfl (by decide) ?_
                refine fs_imul (pc2 := 104) rfl rfl rfl ?_
                refine fs_isub (pc2 := 105) rfl rfl rfl ?_
                refine fs_ishr (pc2 := 106) rfl rfl rfl ?_
                refine fs_sipush (pc2 := 109) rfl rfl rfl ?_
                refine fs_iand (pc2 := 110) rfl rfl rfl ?_
                try simp (disch := omega) only [nI_lit, pk_mul, nI_add, pk_sub, pk_rem4, nI_clamp, up2_o, up2_s, up2_i, cpV_o, cpV_i, f2]
                refine fs_iast (pc2 := 111) rfl rfl rfl (by assumption) (vp_in_nI (by omega) (by decide)) ?_
                refine fs_aload_n (pc2 := 112) rfl rfl rfl rfl ?_
                first | refine fs_dup_r (pc2 := 113) rfl rfl rfl ?_ | refine fs_dup_i (pc2 := 113) rfl rfl rfl ?_
                refine fs_geti (pc2 := 116) rfl rfl rfl (by assumption) rfl ?_
                refine fs_iconst (pc2 := 117) rfl rfl rfl ?_
                refine fs_iadd (pc2 := 118) rfl rfl rfl ?_
                refine fs_puti (pc2 := 121) rfl rfl rfl (by assumption) rfl True.intro ?_
                refine fs_iinc (pc2 := 124) rfl rfl rfl (Nat.le_of_ble_eq_true rfl) rfl ?_
                refine fs_goto rfl rfl ?_
                try simp (disch := omega) only [nI_lit, pk_mul, nI_add, pk_sub, pk_rem4, nI_clamp, up2_o, up2_s, up2_i, cpV_o, cpV_i, f2]
                have eb : cc >>> (nI (24 - 8 * (i % 4)) &&& nI 31) &&& nI 255 = nI (fbyte ca cb cc cd i) := by
                  unfold fbyte
                  rw [if_neg (by omega), if_neg (by omega), if_pos k73, er]
                  exact and255 _
                rw [eb]
                exact ih (i + 1) _ _ (by omega) hM2 hf2 hO2 (Or.inr ⟨_, rfl⟩)
            · have k62 : i < 8 := c_lt (b := 8) h62 rfl rfl
              refine fs_iload_n (pc2 := 66) rfl rfl rfl rfl ?_
              refine fs_goto rfl rfl ?_
              refine fs_istore (pc2 := 85) rfl rfl rfl (Nat.le_of_ble_eq_true rfl) ?_
              refine fs_aload_n (pc2 := 86) rfl rfl rfl rfl ?_
              refine fs_getr (pc2 := 89) rfl rfl rfl (by assumption) rfl ?_
              refine fs_aload_n (pc2 := 90) rfl rfl rfl rfl ?_
              refine fs_geti (pc2 := 93) rfl rfl rfl (by assumption) rfl ?_
              refine fs_iload (pc2 := 95) rfl rfl rfl rfl ?_
              refine fs_bipush (pc2 := 97) rfl rfl rfl ?_
              refine fs_bipush (pc2 := 99) rfl rfl rfl ?_
              refine fs_iload (pc2 := 101) rfl rfl rfl rfl ?_
              refine fs_iconst (pc2 := 102) rfl rfl rfl ?_
              refine fs_irem (pc2 := 103) rfl rfl rfl (by decide) ?_
              refine fs_imul (pc2 := 104) rfl rfl rfl ?_
              refine fs_isub (pc2 := 105) rfl rfl rfl ?_
              refine fs_ishr (pc2 := 106) rfl rfl rfl ?_
              refine fs_sipush (pc2 := 109) rfl rfl rfl ?_
              refine fs_iand (pc2 := 110) rfl rfl rfl ?_
              try simp (disch := omega) only [nI_lit, pk_mul, nI_add, pk_sub, pk_rem4, nI_clamp, up2_o, up2_s, up2_i, cpV_o, cpV_i, f2]
              refine fs_iast (pc2 := 111) rfl rfl rfl (by assumption) (vp_in_nI (by omega) (by decide)) ?_
              refine fs_aload_n (pc2 := 112) rfl rfl rfl rfl ?_
              first | refine fs_dup_r (pc2 := 113) rfl rfl rfl ?_ | refine fs_dup_i (pc2 := 113) rfl rfl rfl ?_
              refine fs_geti (pc2 := 116) rfl rfl rfl (by assumption) rfl ?_
              refine fs_iconst (pc2 := 117) rfl rfl rfl ?_
              refine fs_iadd (pc2 := 118) rfl rfl rfl ?_
              refine fs_puti (pc2 := 121) rfl rfl rfl (by assumption) rfl True.intro ?_
              refine fs_iinc (pc2 := 124) rfl rfl rfl (Nat.le_of_ble_eq_true rfl) rfl ?_
              refine fs_goto rfl rfl ?_
              try simp (disch := omega) only [nI_lit, pk_mul, nI_add, pk_sub, pk_rem4, nI_clamp, up2_o, up2_s, up2_i, cpV_o, cpV_i, f2]
              have eb : cb >>> (nI (24 - 8 * (i % 4)) &&& nI 31) &&& nI 255 = nI (fbyte ca cb cc cd i) := by
                unfold fbyte
                rw [if_neg (by omega), if_pos k62, er]
                exact and255 _
              rw [eb]
              exact ih (i + 1) _ _ (by omega) hM2 hf2 hO2 (Or.inr ⟨_, rfl⟩)
          · have k51 : i < 4 := c_lt (b := 4) h51 rfl rfl
            refine fs_iload_n (pc2 := 55) rfl rfl rfl rfl ?_
            refine fs_goto rfl rfl ?_
            refine fs_istore (pc2 := 85) rfl rfl rfl (Nat.le_of_ble_eq_true rfl) ?_
            refine fs_aload_n (pc2 := 86) rfl rfl rfl rfl ?_
            refine fs_getr (pc2 := 89) rfl rfl rfl (by assumption) rfl ?_
            refine fs_aload_n (pc2 := 90) rfl rfl rfl rfl ?_
            refine fs_geti (pc2 := 93) rfl rfl rfl (by assumption) rfl ?_
            refine fs_iload (pc2 := 95) rfl rfl rfl rfl ?_
            refine fs_bipush (pc2 := 97) rfl rfl rfl ?_
            refine fs_bipush (pc2 := 99) rfl rfl rfl ?_
            refine fs_iload (pc2 := 101) rfl rfl rfl rfl ?_
            refine fs_iconst (pc2 := 102) rfl rfl rfl ?_
            refine fs_irem (pc2 := 103) rfl rfl rfl (by decide) ?_
            refine fs_imul (pc2 := 104) rfl rfl rfl ?_
            refine fs_isub (pc2 := 105) rfl rfl rfl ?_
            refine fs_ishr (pc2 := 106) rfl rfl rfl ?_
            refine fs_sipush (pc2 := 109) rfl rfl rfl ?_
            refine fs_iand (pc2 := 110) rfl rfl rfl ?_
            try simp (disch := omega) only [nI_lit, pk_mul, nI_add, pk_sub, pk_rem4, nI_clamp, up2_o, up2_s, up2_i, cpV_o, cpV_i, f2]
            refine fs_iast (pc2 := 111) rfl rfl rfl (by assumption) (vp_in_nI (by omega) (by decide)) ?_
            refine fs_aload_n (pc2 := 112) rfl rfl rfl rfl ?_
            first | refine fs_dup_r (pc2 := 113) rfl rfl rfl ?_ | refine fs_dup_i (pc2 := 113) rfl rfl rfl ?_
            refine fs_geti (pc2 := 116) rfl rfl rfl (by assumption) rfl ?_
            refine fs_iconst (pc2 := 117) rfl rfl rfl ?_
            refine fs_iadd (pc2 := 118) rfl rfl rfl ?_
            refine fs_puti (pc2 := 121) rfl rfl rfl (by assumption) rfl True.intro ?_
            refine fs_iinc (pc2 := 124) rfl rfl rfl (Nat.le_of_ble_eq_true rfl) rfl ?_
            refine fs_goto rfl rfl ?_
            try simp (disch := omega) only [nI_lit, pk_mul, nI_add, pk_sub, pk_rem4, nI_clamp, up2_o, up2_s, up2_i, cpV_o, cpV_i, f2]
            have eb : ca >>> (nI (24 - 8 * (i % 4)) &&& nI 31) &&& nI 255 = nI (fbyte ca cb cc cd i) := by
              unfold fbyte
              rw [if_pos k51, er]
              exact and255 _
            rw [eb]
            exact ih (i + 1) _ _ (by omega) hM2 hf2 hO2 (Or.inr ⟨_, rfl⟩)
      · refine fs_iload (pc2 := 44) rfl rfl rfl rfl ?_
        refine fs_iload_n (pc2 := 45) rfl rfl rfl rfl ?_
        try simp (disch := omega) only [nI_lit, pk_mul, nI_add, pk_sub, pk_rem4, nI_clamp, up2_o, up2_s, up2_i, cpV_o, cpV_i, f2]
        refine fs_icmp_ge (pc2 := 48) rfl rfl rfl (fun h45 => ?_) (fun h45 => ?_)
        · have := c_nlt (a := i) (b := m) h45 rfl rfl
          omega
        · refine fs_iload (pc2 := 50) rfl rfl rfl rfl ?_
          refine fs_iconst (pc2 := 51) rfl rfl rfl ?_
          try simp (disch := omega) only [nI_lit, pk_mul, nI_add, pk_sub, pk_rem4, nI_clamp, up2_o, up2_s, up2_i, cpV_o, cpV_i, f2]
          refine fs_icmp_ge (pc2 := 54) rfl rfl rfl (fun h51 => ?_) (fun h51 => ?_)
          · have k51 : 4 ≤ i := c_nlt (b := 4) h51 rfl rfl
            refine fs_iload (pc2 := 60) rfl rfl rfl rfl ?_
            refine fs_bipush (pc2 := 62) rfl rfl rfl ?_
            try simp (disch := omega) only [nI_lit, pk_mul, nI_add, pk_sub, pk_rem4, nI_clamp, up2_o, up2_s, up2_i, cpV_o, cpV_i, f2]
            refine fs_icmp_ge (pc2 := 65) rfl rfl rfl (fun h62 => ?_) (fun h62 => ?_)
            · have k62 : 8 ≤ i := c_nlt (b := 8) h62 rfl rfl
              refine fs_iload (pc2 := 71) rfl rfl rfl rfl ?_
              refine fs_bipush (pc2 := 73) rfl rfl rfl ?_
              try simp (disch := omega) only [nI_lit, pk_mul, nI_add, pk_sub, pk_rem4, nI_clamp, up2_o, up2_s, up2_i, cpV_o, cpV_i, f2]
              refine fs_icmp_ge (pc2 := 76) rfl rfl rfl (fun h73 => ?_) (fun h73 => ?_)
              · have k73 : 12 ≤ i := c_nlt (b := 12) h73 rfl rfl
                refine fs_iload (pc2 := 83) rfl rfl rfl rfl ?_
                refine fs_istore (pc2 := 85) rfl rfl rfl (Nat.le_of_ble_eq_true rfl) ?_
                refine fs_aload_n (pc2 := 86) rfl rfl rfl rfl ?_
                refine fs_getr (pc2 := 89) rfl rfl rfl (by assumption) rfl ?_
                refine fs_aload_n (pc2 := 90) rfl rfl rfl rfl ?_
                refine fs_geti (pc2 := 93) rfl rfl rfl (by assumption) rfl ?_
                refine fs_iload (pc2 := 95) rfl rfl rfl rfl ?_
                refine fs_bipush (pc2 := 97) rfl rfl rfl ?_
                refine fs_bipush (pc2 := 99) rfl rfl rfl ?_
                refine fs_iload (pc2 := 101) rfl rfl rfl rfl ?_
                refine fs_iconst (pc2 := 102) rfl rfl rfl ?_
                refine fs_irem (pc2 := 103) rfl rfl rfl (by decide) ?_
                refine fs_imul (pc2 := 104) rfl rfl rfl ?_
                refine fs_isub (pc2 := 105) rfl rfl rfl ?_
                refine fs_ishr (pc2 := 106) rfl rfl rfl ?_
                refine fs_sipush (pc2 := 109) rfl rfl rfl ?_
                refine fs_iand (pc2 := 110) rfl rfl rfl ?_
                try simp (disch := omega) only [nI_lit, pk_mul, nI_add, pk_sub, pk_rem4, nI_clamp, up2_o, up2_s, up2_i, cpV_o, cpV_i, f2]
                refine fs_iast (pc2 := 111) rfl rfl rfl (by assumption) (vp_in_nI (by omega) (by decide)) ?_
                refine fs_aload_n (pc2 := 112) rfl rfl rfl rfl ?_
                first | refine fs_dup_r (pc2 := 113) rfl rfl rfl ?_ | refine fs_dup_i (pc2 := 113) rfl rfl rfl ?_
                refine fs_geti (pc2 := 116) rfl rfl rfl (by assumption) rfl ?_
                refine fs_iconst (pc2 := 117) rfl rfl rfl ?_
                refine fs_iadd (pc2 := 118) rfl rfl rfl ?_
                refine fs_puti (pc2 := 121) rfl rfl rfl (by assumption) rfl True.intro ?_
                refine fs_iinc (pc2 := 124) rfl rfl rfl (Nat.le_of_ble_eq_true rfl) rfl ?_
                refine fs_goto rfl rfl ?_
                try simp (disch := omega) only [nI_lit, pk_mul, nI_add, pk_sub, pk_rem4, nI_clamp, up2_o, up2_s, up2_i, cpV_o, cpV_i, f2]
                have eb : cd >>> (nI (24 - 8 * (i % 4)) &&& nI 31) &&& nI 255 = nI (fbyte ca cb cc cd i) := by
                  unfold fbyte
                  rw [if_neg (by omega), if_neg (by omega), if_neg (by omega), er]
                  exact and255 _
                rw [eb]
                exact ih (i + 1) _ _ (by omega) hM2 hf2 hO2 (Or.inr ⟨_, rfl⟩)
              · have k73 : i < 12 := c_lt (b := 12) h73 rfl rfl
                refine fs_iload (pc2 := 78) rfl rfl rfl rfl ?_
                refine fs_goto rfl rfl ?_
                refine fs_istore (pc2 := 85) rfl rfl rfl (Nat.le_of_ble_eq_true rfl) ?_
                refine fs_aload_n (pc2 := 86) rfl rfl rfl rfl ?_
                refine fs_getr (pc2 := 89) rfl rfl rfl (by assumption) rfl ?_
                refine fs_aload_n (pc2 := 90) rfl rfl rfl rfl ?_
                refine fs_geti (pc2 := 93) rfl rfl rfl (by assumption) rfl ?_
                refine fs_iload (pc2 := 95) rfl rfl rfl rfl ?_
                refine fs_bipush (pc2 := 97) rfl rfl rfl ?_
                refine fs_bipush (pc2 := 99) rfl rfl rfl ?_
                refine fs_iload (pc2 := 101) rfl rfl rfl rfl ?_
                refine fs_iconst (pc2 := 102) rfl rfl rfl ?_
                refine fs_irem (pc2 := 103) rfl rfl rfl (by decide) ?_
                refine fs_imul (pc2 := 104) rfl rfl rfl ?_
                refine fs_isub (pc2 := 105) rfl rfl rfl ?_
                refine fs_ishr (pc2 := 106) rfl rfl rfl ?_
                refine fs_sipush (pc2 := 109) rfl rfl rfl ?_
                refine fs_iand (pc2 := 110) rfl rfl rfl ?_
                try simp (disch := omega) only [nI_lit, pk_mul, nI_add, pk_sub, pk_rem4, nI_clamp, up2_o, up2_s, up2_i, cpV_o, cpV_i, f2]
                refine fs_iast (pc2 := 111) rfl rfl rfl (by assumption) (vp_in_nI (by omega) (by decide)) ?_
                refine fs_aload_n (pc2 := 112) rfl rfl rfl rfl ?_
                first | refine fs_dup_r (pc2 := 113) rfl rfl rfl ?_ | refine fs_dup_i (pc2 := 113) rfl rfl rfl ?_
                refine fs_geti (pc2 := 116) rfl rfl rfl (by assumption) rfl ?_
                refine fs_iconst (pc2 := 117) rfl rfl rfl ?_
                refine fs_iadd (pc2 := 118) rfl rfl rfl ?_
                refine fs_puti (pc2 := 121) rfl rfl rfl (by assumption) rfl True.intro ?_
                refine fs_iinc (pc2 := 124) rfl rfl rfl (Nat.le_of_ble_eq_true rfl) rfl ?_
                refine fs_goto rfl rfl ?_
                try simp (disch := omega) only [nI_lit, pk_mul, nI_add, pk_sub, pk_rem4, nI_clamp, up2_o, up2_s, up2_i, cpV_o, cpV_i, f2]
                have eb : cc >>> (nI (24 - 8 * (i % 4)) &&& nI 31) &&& nI 255 = nI (fbyte ca cb cc cd i) := by
                  unfold fbyte
                  rw [if_neg (by omega), if_neg (by omega), if_pos k73, er]
                  exact and255 _
                rw [eb]
                exact ih (i + 1) _ _ (by omega) hM2 hf2 hO2 (Or.inr ⟨_, rfl⟩)
            · have k62 : i < 8 := c_lt (b := 8) h62 rfl rfl
              refine fs_iload_n (pc2 := 66) rfl rfl rfl rfl ?_
              refine fs_goto rfl rfl ?_
              refine fs_istore (pc2 := 85) rfl rfl rfl (Nat.le_of_ble_eq_true rfl) ?_
              refine fs_aload_n (pc2 := 86) rfl rfl rfl rfl ?_
              refine fs_getr (pc2 := 89) rfl rfl rfl (by assumption) rfl ?_
              refine fs_aload_n (pc2 := 90) rfl rfl rfl rfl ?_
              refine fs_geti (pc2 := 93) rfl rfl rfl (by assumption) rfl ?_
              refine fs_iload (pc2 := 95) rfl rfl rfl rfl ?_
              refine fs_bipush (pc2 := 97) rfl rfl rfl ?_
              refine fs_bipush (pc2 := 99) rfl rfl rfl ?_
              refine fs_iload (pc2 := 101) rfl rfl rfl rfl ?_
              refine fs_iconst (pc2 := 102) rfl rfl rfl ?_
              refine fs_irem (pc2 := 103) rfl rfl rfl (by decide) ?_
              refine fs_imul (pc2 := 104) rfl rfl rfl ?_
              refine fs_isub (pc2 := 105) rfl rfl rfl ?_
              refine fs_ishr (pc2 := 106) rfl rfl rfl ?_
              refine fs_sipush (pc2 := 109) rfl rfl rfl ?_
              refine fs_iand (pc2 := 110) rfl rfl rfl ?_
              try simp (disch := omega) only [nI_lit, pk_mul, nI_add, pk_sub, pk_rem4, nI_clamp, up2_o, up2_s, up2_i, cpV_o, cpV_i, f2]
              refine fs_iast (pc2 := 111) rfl rfl rfl (by assumption) (vp_in_nI (by omega) (by decide)) ?_
              refine fs_aload_n (pc2 := 112) rfl rfl rfl rfl ?_
              first | refine fs_dup_r (pc2 := 113) rfl rfl rfl ?_ | refine fs_dup_i (pc2 := 113) rfl rfl rfl ?_
              refine fs_geti (pc2 := 116) rfl rfl rfl (by assumption) rfl ?_
              refine fs_iconst (pc2 := 117) rfl rfl rfl ?_
              refine fs_iadd (pc2 := 118) rfl rfl rfl ?_
              refine fs_puti (pc2 := 121) rfl rfl rfl (by assumption) rfl True.intro ?_
              refine fs_iinc (pc2 := 124) rfl rfl rfl (Nat.le_of_ble_eq_true rfl) rfl ?_
              refine fs_goto rfl rfl ?_
              try simp (disch := omega) only [nI_lit, pk_mul, nI_add, pk_sub, pk_rem4, nI_clamp, up2_o, up2_s, up2_i, cpV_o, cpV_i, f2]
              have eb : cb >>> (nI (24 - 8 * (i % 4)) &&& nI 31) &&& nI 255 = nI (fbyte ca cb cc cd i) := by
                unfold fbyte
                rw [if_neg (by omega), if_pos k62, er]
                exact and255 _
              rw [eb]
              exact ih (i + 1) _ _ (by omega) hM2 hf2 hO2 (Or.inr ⟨_, rfl⟩)
          · have k51 : i < 4 := c_lt (b := 4) h51 rfl rfl
            refine fs_iload_n (pc2 := 55) rfl rfl rfl rfl ?_
            refine fs_goto rfl rfl ?_
            refine fs_istore (pc2 := 85) rfl rfl rfl (Nat.le_of_ble_eq_true rfl) ?_
            refine fs_aload_n (pc2 := 86) rfl rfl rfl rfl ?_
            refine fs_getr (pc2 := 89) rfl rfl rfl (by assumption) rfl ?_
            refine fs_aload_n (pc2 := 90) rfl rfl rfl rfl ?_
            refine fs_geti (pc2 := 93) rfl rfl rfl (by assumption) rfl ?_
            refine fs_iload (pc2 := 95) rfl rfl rfl rfl ?_
            refine fs_bipush (pc2 := 97) rfl rfl rfl ?_
            refine fs_bipush (pc2 := 99) rfl rfl rfl ?_
            refine fs_iload (pc2 := 101) rfl rfl rfl rfl ?_
            refine fs_iconst (pc2 := 102) rfl rfl rfl ?_
            refine fs_irem (pc2 := 103) rfl rfl rfl (by decide) ?_
            refine fs_imul (pc2 := 104) rfl rfl rfl ?_
            refine fs_isub (pc2 := 105) rfl rfl rfl ?_
            refine fs_ishr (pc2 := 106) rfl rfl rfl ?_
            refine fs_sipush (pc2 := 109) rfl rfl rfl ?_
            refine fs_iand (pc2 := 110) rfl rfl rfl ?_
            try simp (disch := omega) only [nI_lit, pk_mul, nI_add, pk_sub, pk_rem4, nI_clamp, up2_o, up2_s, up2_i, cpV_o, cpV_i, f2]
            refine fs_iast (pc2 := 111) rfl rfl rfl (by assumption) (vp_in_nI (by omega) (by decide)) ?_
            refine fs_aload_n (pc2 := 112) rfl rfl rfl rfl ?_
            first | refine fs_dup_r (pc2 := 113) rfl rfl rfl ?_ | refine fs_dup_i (pc2 := 113) rfl rfl rfl ?_
            refine fs_geti (pc2 := 116) rfl rfl rfl (by assumption) rfl ?_
            refine fs_iconst (pc2 := 117) rfl rfl rfl ?_
            refine fs_iadd (pc2 := 118) rfl rfl rfl ?_
            refine fs_puti (pc2 := 121) rfl rfl rfl (by assumption) rfl True.intro ?_
            refine fs_iinc (pc2 := 124) rfl rfl rfl (Nat.le_of_ble_eq_true rfl) rfl ?_
            refine fs_goto rfl rfl ?_
            try simp (disch := omega) only [nI_lit, pk_mul, nI_add, pk_sub, pk_rem4, nI_clamp, up2_o, up2_s, up2_i, cpV_o, cpV_i, f2]
            have eb : ca >>> (nI (24 - 8 * (i % 4)) &&& nI 31) &&& nI 255 = nI (fbyte ca cb cc cd i) := by
              unfold fbyte
              rw [if_pos k51, er]
              exact and255 _
            rw [eb]
            exact ih (i + 1) _ _ (by omega) hM2 hf2 hO2 (Or.inr ⟨_, rfl⟩)
  refine fs_aload_n (pc2 := 1) rfl rfl rfl rfl ?_
  refine fs_iload_n (pc2 := 2) rfl rfl rfl rfl ?_
  refine fs_iconst (pc2 := 3) rfl rfl rfl ?_
  refine fs_bipush (pc2 := 5) rfl rfl rfl ?_
  try simp (disch := omega) only [nI_lit, pk_mul, nI_add, pk_sub, pk_rem4, nI_clamp, up2_o, up2_s, up2_i, cpV_o, cpV_i, e2]
  refine fs_calls (pc2 := 8) rfl rfl rfl rfl rfl rfl ⟨rfl, rfl⟩ (Nat.le_of_ble_eq_true rfl) (Nat.le_of_ble_eq_true rfl) (Nat.le_of_ble_eq_true rfl) (m_isIn (u := nI m) (a := nI 0) (b := nI 16)) (fun v9 sh9 V9 n9 hp9 => ?_)
  obtain ⟨ea9, eb9, ec9, hv9⟩ := hp9
  cases ea9
  obtain rfl := eb9.symm
  obtain rfl := ec9.symm
  cases hv9
  rw [hIn]
  try simp (disch := omega) only [nI_lit, pk_mul, nI_add, pk_sub, pk_rem4, nI_clamp, up2_o, up2_s, up2_i, cpV_o, cpV_i, e2]
  refine fs_if_ne (pc2 := 11) rfl rfl rfl (fun h8 => ?_) (fun h8 => ?_)
  · refine fs_aload_n (pc2 := 16) rfl rfl rfl rfl ?_
    refine fs_geti (pc2 := 19) rfl rfl rfl (by assumption) rfl ?_
    refine fs_iload_n (pc2 := 20) rfl rfl rfl rfl ?_
    refine fs_iadd (pc2 := 21) rfl rfl rfl ?_
    refine fs_bipush (pc2 := 23) rfl rfl rfl ?_
    try simp (disch := omega) only [nI_lit, pk_mul, nI_add, pk_sub, pk_rem4, nI_clamp, up2_o, up2_s, up2_i, cpV_o, cpV_i, e2]
    refine fs_icmp_le (pc2 := 26) rfl rfl rfl (fun h23 => ?_) (fun h23 => ?_)
    · refine fs_iconst (pc2 := 31) rfl rfl rfl ?_
      try simp (disch := omega) only [nI_lit, pk_mul, nI_add, pk_sub, pk_rem4, nI_clamp, up2_o, up2_s, up2_i, cpV_o, cpV_i, e2]
      refine fs_callv (pc2 := 34) rfl rfl rfl rfl ⟨rfl, rfl⟩ (Nat.le_of_ble_eq_true rfl) (Nat.le_of_ble_eq_true rfl) (Nat.le_of_ble_eq_true rfl) (fs_rcv rfl (by assumption)) (m_refusedE hm (w := nI 0)) (fun v9 sh9 V9 n9 hp9 => ?_)
      obtain ⟨ea9, eb9, ec9, hv9⟩ := hp9
      cases ea9
      obtain rfl := eb9.symm
      obtain rfl := ec9.symm
      cases hv9
      rw [rf0]
      try simp (disch := omega) only [nI_lit, pk_mul, nI_add, pk_sub, pk_rem4, nI_clamp, up2_o, up2_s, up2_i, cpV_o, cpV_i, e2]
      refine fs_if_eq (pc2 := 37) rfl rfl rfl (fun h34 => ?_) (fun h34 => ?_)
      · refine fs_iconst (pc2 := 40) rfl rfl rfl ?_
        refine fs_istore (pc2 := 42) rfl rfl rfl (Nat.le_of_ble_eq_true rfl) ?_
        try simp (disch := omega) only [nI_lit, pk_mul, nI_add, pk_sub, pk_rem4, nI_clamp, up2_o, up2_s, up2_i, cpV_o, cpV_i]
        exact loop m 0 _ [] (by omega) (by simpa using hM.tmp FM.zero) up2_s OU.zero (Or.inl rfl)
      · first | exact absurd h34 (by decide) | exact absurd (by decide) h34
    · have := c_nle (b := 120) h23 rfl rfl
      omega
  · first | exact absurd h8 (by decide) | exact absurd (by decide) h8
set_option maxRecDepth 100000 in
set_option maxHeartbeats 4000000 in
theorem m_send_full (hm : isMo sh mb) (hM : Mo V mb T S HH) (hh : h < 2) (hk : k < 4) (hst : ((HH h).2.1 k).1 1 = 2) (hno : ((HH h).2.1 k).1 7 < S.length ∨ ((HH h).2.1 k).2.2.1.length = 2) : fl_M cy z0 ext (d + 6) m_X7_send [.ref (z0 + mb), .int (nI h), .int (nI (64 + k))] sh V n (fun v sh' V' n' => v = some (.int (-2)) ∧ sh' = sh ∧ n' = n ∧ Mo V' mb T S HH ∧ V' mb 0 = nI 0 ∧ OU mb V V') := by
  have m0 := hm.1
  have a1 : sh (mb + 1) = some (.inl (1, 120, none)) := hm.2 0 (1, 120) rfl
  have a11 : sh (mb + 11) = some (.inl (1, 8, none)) := hm.2 10 (1, 8) rfl
  have a15 : sh (mb + 15) = some (.inl (1, 8, none)) := hm.2 14 (1, 8) rfl
  have a16 : sh (mb + 16) = some (.inl (1, 16, none)) := hm.2 15 (1, 16) rfl
  have a17 : sh (mb + 17) = some (.inl (1, 1920, none)) := hm.2 16 (1, 1920) rfl
  have hHo := isHostM_nI hh
  have hM1 : Mo (up2 V mb 0 (nI 0)) mb T S (va_up HH h (HH h)) := (hM.at (h := h)).tmp FM.zero
  have ek : 4 * h + (64 + k) - 64 = 4 * h + k := by omega
  have hM0 := hM.at (h := h)
  have hC := (hM.2 h hh).2.2.2.2.2.2 k hk
  obtain ⟨e11, l11⟩ := hC.num (7, 11) (by decide)
  dsimp only at e11 l11
  have e15 := hC.2.2.2.1
  have l15 := hC.2.2.2.2.1
  obtain ⟨e2, l2, e1⟩ := id hM.1
  refine fs_body rfl rfl (fun Ret hP => ?_)
  refine fs_aload_n (pc2 := 1) rfl rfl rfl rfl ?_
  refine fs_aload_n (pc2 := 2) rfl rfl rfl rfl ?_
  refine fs_iload_n (pc2 := 3) rfl rfl rfl rfl ?_
  refine fs_iload_n (pc2 := 4) rfl rfl rfl rfl ?_
  refine fs_iconst (pc2 := 5) rfl rfl rfl ?_
  try simp (disch := omega) only [nI_lit, pk_mul, nI_add, pk_sub, pk_rem4, nI_clamp, up2_o, up2_s, up2_i, cpV_o, cpV_i, ek, e2, e11, e15]
  refine fs_callv (pc2 := 8) rfl rfl rfl rfl ⟨rfl, rfl⟩ (Nat.le_of_ble_eq_true rfl) (Nat.le_of_ble_eq_true rfl) (Nat.le_of_ble_eq_true rfl) (fs_rcv rfl (by assumption)) (m_wrongS hm hM0 hh hk) (fun v9 sh9 V9 n9 hp9 => ?_)
  obtain ⟨ea9, eb9, ec9, hv9⟩ := hp9
  cases ea9
  obtain rfl := eb9.symm
  obtain rfl := ec9.symm
  cases hv9
  rw [if_pos hst]
  try simp (disch := omega) only [nI_lit, pk_mul, nI_add, pk_sub, pk_rem4, nI_clamp, up2_o, up2_s, up2_i, cpV_o, cpV_i, ek, e2, e11, e15]
  refine fs_callv (pc2 := 11) rfl rfl rfl rfl ⟨rfl, rfl⟩ (Nat.le_of_ble_eq_true rfl) (Nat.le_of_ble_eq_true rfl) (Nat.le_of_ble_eq_true rfl) (fs_rcv rfl (by assumption)) (m_refusedE hm (w := nI 0)) (fun v9 sh9 V9 n9 hp9 => ?_)
  obtain ⟨ea9, eb9, ec9, hv9⟩ := hp9
  cases ea9
  obtain rfl := eb9.symm
  obtain rfl := ec9.symm
  cases hv9
  rw [rf0]
  try simp (disch := omega) only [nI_lit, pk_mul, nI_add, pk_sub, pk_rem4, nI_clamp, up2_o, up2_s, up2_i, cpV_o, cpV_i, ek, e2, e11, e15]
  refine fs_if_eq (pc2 := 14) rfl rfl rfl (fun h11 => ?_) (fun h11 => ?_)
  · refine fs_iconst (pc2 := 17) rfl rfl rfl ?_
    refine fs_iload_n (pc2 := 18) rfl rfl rfl rfl ?_
    refine fs_imul (pc2 := 19) rfl rfl rfl ?_
    refine fs_iload_n (pc2 := 20) rfl rfl rfl rfl ?_
    refine fs_iadd (pc2 := 21) rfl rfl rfl ?_
    refine fs_bipush (pc2 := 23) rfl rfl rfl ?_
    refine fs_isub (pc2 := 24) rfl rfl rfl ?_
    refine fs_istore_n (pc2 := 25) rfl rfl rfl (Nat.le_of_ble_eq_true rfl) ?_
    refine fs_aload_n (pc2 := 26) rfl rfl rfl rfl ?_
    refine fs_geti (pc2 := 29) rfl rfl rfl (by assumption) rfl ?_
    refine fs_aload_n (pc2 := 30) rfl rfl rfl rfl ?_
    refine fs_getr (pc2 := 33) rfl rfl rfl (by assumption) rfl ?_
    refine fs_iload_n (pc2 := 34) rfl rfl rfl rfl ?_
    try simp (disch := omega) only [nI_lit, pk_mul, nI_add, pk_sub, pk_rem4, nI_clamp, up2_o, up2_s, up2_i, cpV_o, cpV_i, ek, e2, e11, e15]
    refine fs_iald (pc2 := 35) rfl rfl rfl (by assumption) (vp_in_nI (by omega) (by decide)) ?_
    try simp (disch := omega) only [nI_lit, pk_mul, nI_add, pk_sub, pk_rem4, nI_clamp, up2_o, up2_s, up2_i, cpV_o, cpV_i, ek, e2, e11, e15]
    refine fs_icmp_gt (pc2 := 38) rfl rfl rfl (fun h35 => ?_) (fun h35 => ?_)
    · have k35 : ((HH h).2.1 k).1 7 < S.length := c_nle h35 rfl rfl
      refine fs_bipush (pc2 := 50) rfl rfl rfl ?_
      try simp (disch := omega) only [nI_lit, pk_mul, nI_add, pk_sub, pk_rem4, nI_clamp, up2_o, up2_s, up2_i, cpV_o, cpV_i, ek, e2, e11, e15]
      refine fs_iret rfl rfl True.intro ?_
      rw [va_up_id] at hM1
      exact hP _ _ _ _ ⟨rfl, rfl, rfl, hM1, up2_s, OU.zero⟩
    · have k35 : S.length ≤ ((HH h).2.1 k).1 7 := c_le h35 rfl rfl
      refine fs_aload_n (pc2 := 39) rfl rfl rfl rfl ?_
      refine fs_getr (pc2 := 42) rfl rfl rfl (by assumption) rfl ?_
      refine fs_iload_n (pc2 := 43) rfl rfl rfl rfl ?_
      try simp (disch := omega) only [nI_lit, pk_mul, nI_add, pk_sub, pk_rem4, nI_clamp, up2_o, up2_s, up2_i, cpV_o, cpV_i, ek, e2, e11, e15]
      refine fs_iald (pc2 := 44) rfl rfl rfl (by assumption) (vp_in_nI (by omega) (by decide)) ?_
      refine fs_iconst (pc2 := 45) rfl rfl rfl ?_
      try simp (disch := omega) only [nI_lit, pk_mul, nI_add, pk_sub, pk_rem4, nI_clamp, up2_o, up2_s, up2_i, cpV_o, cpV_i, ek, e2, e11, e15]
      refine fs_icmp_ne (pc2 := 48) rfl rfl rfl (fun h45 => ?_) (fun h45 => ?_)
      · have := c_ne (b := 2) h45 rfl rfl
        omega
      · refine fs_bipush (pc2 := 50) rfl rfl rfl ?_
        try simp (disch := omega) only [nI_lit, pk_mul, nI_add, pk_sub, pk_rem4, nI_clamp, up2_o, up2_s, up2_i, cpV_o, cpV_i, ek, e2, e11, e15]
        refine fs_iret rfl rfl True.intro ?_
        rw [va_up_id] at hM1
        exact hP _ _ _ _ ⟨rfl, rfl, rfl, hM1, up2_s, OU.zero⟩
  · first | exact absurd h11 (by decide) | exact absurd (by decide) h11
set_option maxRecDepth 100000 in
set_option maxHeartbeats 4000000 in
theorem m_send (hm : isMo sh mb) (hM : Mo V mb T S HH) (hh : h < 2) (hk : k < 4) (hst : ((HH h).2.1 k).1 1 = 2) (hle : S.length ≤ ((HH h).2.1 k).1 7) (hfr : ((HH h).2.1 k).2.2.1.length < 2) (hS : SI2 (va_up HH h (hoC (HH h) k (txPut ((HH h).2.1 k) S)))) : fl_M cy z0 ext (d + 6) m_X7_send [.ref (z0 + mb), .int (nI h), .int (nI (64 + k))] sh V n (fun v sh' V' n' => v = some (.int (nI (((HH h).2.1 k).2.2.1.length + 1))) ∧ sh' = sh ∧ n' = n ∧ Mo V' mb T [] (st_send (va_up HH h (hoC (HH h) k (txPut ((HH h).2.1 k) S)))) ∧ V' mb 0 = nI 0 ∧ OU mb V V') := by
  have m0 := hm.1
  have a1 : sh (mb + 1) = some (.inl (1, 120, none)) := hm.2 0 (1, 120) rfl
  have a11 : sh (mb + 11) = some (.inl (1, 8, none)) := hm.2 10 (1, 8) rfl
  have a15 : sh (mb + 15) = some (.inl (1, 8, none)) := hm.2 14 (1, 8) rfl
  have a16 : sh (mb + 16) = some (.inl (1, 16, none)) := hm.2 15 (1, 16) rfl
  have a17 : sh (mb + 17) = some (.inl (1, 1920, none)) := hm.2 16 (1, 1920) rfl
  have hHo := isHostM_nI hh
  have hM1 : Mo (up2 V mb 0 (nI 0)) mb T S (va_up HH h (HH h)) := (hM.at (h := h)).tmp FM.zero
  have ek : 4 * h + (64 + k) - 64 = 4 * h + k := by omega
  have hM0 := hM.at (h := h)
  have hC := (hM.2 h hh).2.2.2.2.2.2 k hk
  obtain ⟨e11, l11⟩ := hC.num (7, 11) (by decide)
  dsimp only at e11 l11
  have e15 := hC.2.2.2.1
  have l15 := hC.2.2.2.2.1
  obtain ⟨e2, l2, e1⟩ := id hM.1
  obtain ⟨tl2, htl⟩ : ∃ x, x = ((HH h).2.1 k).2.2.1.length := ⟨_, rfl⟩
  rw [← htl] at e15 l15 hfr
  have e1i : ∀ i, i < S.length → V (mb + 1) i = nI (S.getD i 0) ∧ S.getD i 0 < 256 := fun i hi => by have := e1.at hi; rwa [Nat.zero_add] at this
  have hC1 := (hM1.host hh).2.2.2.2.2.2 k hk
  refine fs_body rfl rfl (fun Ret hP => ?_)
  rw [← htl] at hP
  have loop : ∀ j i, i + j = S.length → fl_R cy z0 (ev_M cy ext (d + 5)) 7 0 0 6 (some .int) kc_X7_send Ret 77 [(0, .ref (z0 + mb)), (1, .int (nI h)), (2, .int (nI (64 + k))), (3, .int (nI (4 * h + k))), (4, .int (nI (2 * (4 * h + k) + tl2))), (5, .int (nI i))] [] sh (cpV (up2 (up2 V mb 0 (nI 0)) (mb + 16) (2 * (4 * h + k) + tl2) (nI S.length)) (mb + 17) (120 * (2 * (4 * h + k) + tl2)) i (V (mb + 1))) n 0 0 := by
    intro j
    induction j with
    | zero =>
      intro i hi
      have hi2 : i = S.length := by omega
      subst hi2
      refine fs_iload (pc2 := 79) rfl rfl rfl rfl ?_
      refine fs_aload_n (pc2 := 80) rfl rfl rfl rfl ?_
      refine fs_geti (pc2 := 83) rfl rfl rfl (by assumption) rfl ?_
      try simp (disch := omega) only [nI_lit, pk_mul, nI_add, pk_sub, pk_rem4, nI_clamp, up2_o, up2_s, up2_i, cpV_o, cpV_i, e2, e15]
      refine fs_icmp_ge (pc2 := 86) rfl rfl rfl (fun h83 => ?_) (fun h83 => ?_)
      · refine fs_aload_n (pc2 := 113) rfl rfl rfl rfl ?_
        refine fs_getr (pc2 := 116) rfl rfl rfl (by assumption) rfl ?_
        refine fs_iload_n (pc2 := 117) rfl rfl rfl rfl ?_
        refine fs_dup2 (pc2 := 118) rfl rfl rfl ?_
        try simp (disch := omega) only [nI_lit, pk_mul, nI_add, pk_sub, pk_rem4, nI_clamp, up2_o, up2_s, up2_i, cpV_o, cpV_i, e2, e15]
        refine fs_iald (pc2 := 119) rfl rfl rfl (by assumption) (vp_in_nI (by omega) (by decide)) ?_
        refine fs_iconst (pc2 := 120) rfl rfl rfl ?_
        refine fs_iadd (pc2 := 121) rfl rfl rfl ?_
        try simp (disch := omega) only [nI_lit, pk_mul, nI_add, pk_sub, pk_rem4, nI_clamp, up2_o, up2_s, up2_i, cpV_o, cpV_i, e2, e15]
        refine fs_iast (pc2 := 122) rfl rfl rfl (by assumption) (vp_in_nI (by omega) (by decide)) ?_
        refine fs_aload_n (pc2 := 123) rfl rfl rfl rfl ?_
        refine fs_iconst (pc2 := 124) rfl rfl rfl ?_
        refine fs_puti (pc2 := 127) rfl rfl rfl (by assumption) rfl True.intro ?_
        refine fs_aload_n (pc2 := 128) rfl rfl rfl rfl ?_
        refine fs_getr (pc2 := 131) rfl rfl rfl (by assumption) rfl ?_
        refine fs_iload_n (pc2 := 132) rfl rfl rfl rfl ?_
        try simp (disch := omega) only [nI_lit, pk_mul, nI_add, pk_sub, pk_rem4, nI_clamp, up2_o, up2_s, up2_i, cpV_o, cpV_i, e2, e15]
        refine fs_iald (pc2 := 133) rfl rfl rfl (by assumption) (vp_in_nI (by omega) (by decide)) ?_
        refine fs_istore (pc2 := 135) rfl rfl rfl (Nat.le_of_ble_eq_true rfl) ?_
        refine fs_aload_n (pc2 := 136) rfl rfl rfl rfl ?_
        try simp (disch := omega) only [nI_lit, pk_mul, nI_add, pk_sub, pk_rem4, nI_clamp, up2_o, up2_s, up2_i, cpV_o, cpV_i, e2, e15]
        try simp (disch := omega) only [nI_lit, pk_mul, nI_add, pk_sub, pk_rem4, nI_clamp, up2_o, up2_s, up2_i, cpV_o, cpV_i, e2, e15]
        have hC2 := hC1.putT (S := S) (f := V (mb + 1)) (by rw [← htl]; exact hfr) l2 e1i
        rw [← htl] at hC2
        have hM3 := hM1.pC hh hk (((FM.refl.up (j := 16) (i := 2 * (4 * h + k) + tl2) (v := nI S.length) (by simp [own] <;> omega)).cp (j := 17) (b := 120 * (2 * (4 * h + k) + tl2)) (i := S.length) (f := V (mb + 1)) (fun x a1 a2 => by simp [own] <;> omega)).up (j := 15) (i := 4 * h + k) (v := nI (tl2 + 1)) (by simp [own])) hC2
        have hM4 := hM3.putS (S' := []) ⟨up2_s, by simp, fun j b hj => by simp at hj⟩ (FM.refl.up (j := 0) (i := 2) (v := nI 0) (by simp [own]))
        refine fs_callv (pc2 := 139) rfl rfl rfl rfl ⟨rfl, rfl⟩ (Nat.le_of_ble_eq_true rfl) (Nat.le_of_ble_eq_true rfl) (Nat.le_of_ble_eq_true rfl) (fs_rcv rfl (by assumption)) (m_sendBoth hm hM4 hS) (fun v9 sh9 V9 n9 hp9 => ?_)
        obtain ⟨ea9, eb9, ec9, hM5, kp5⟩ := hp9
        cases ea9
        obtain rfl := eb9.symm
        obtain rfl := ec9.symm
        refine fs_iload (pc2 := 141) rfl rfl rfl rfl ?_
        try simp (disch := omega) only [nI_lit, pk_mul, nI_add, pk_sub, pk_rem4, nI_clamp, up2_o, up2_s, up2_i, cpV_o, cpV_i, e2, e15]
        refine fs_iret rfl rfl True.intro ?_
        refine hP _ _ _ _ ⟨rfl, rfl, rfl, hM5, by rw [kp5.1]; simp (disch := omega) only [up2_o, up2_s, up2_i, cpV_o], ((((OU.zero.up (by decide)).cp (by decide)).up (by decide)).up0).trans kp5.2.2⟩
      · have := c_lt (a := S.length) (b := S.length) h83 rfl rfl
        omega
    | succ j ih =>
      intro i hi
      refine fs_iload (pc2 := 79) rfl rfl rfl rfl ?_
      refine fs_aload_n (pc2 := 80) rfl rfl rfl rfl ?_
      refine fs_geti (pc2 := 83) rfl rfl rfl (by assumption) rfl ?_
      try simp (disch := omega) only [nI_lit, pk_mul, nI_add, pk_sub, pk_rem4, nI_clamp, up2_o, up2_s, up2_i, cpV_o, cpV_i, e2]
      refine fs_icmp_ge (pc2 := 86) rfl rfl rfl (fun h83 => ?_) (fun h83 => ?_)
      · have := c_nlt (a := i) (b := S.length) h83 rfl rfl
        omega
      · refine fs_aload_n (pc2 := 87) rfl rfl rfl rfl ?_
        refine fs_getr (pc2 := 90) rfl rfl rfl (by assumption) rfl ?_
        refine fs_bipush (pc2 := 92) rfl rfl rfl ?_
        refine fs_iload (pc2 := 94) rfl rfl rfl rfl ?_
        refine fs_imul (pc2 := 95) rfl rfl rfl ?_
        refine fs_iload (pc2 := 97) rfl rfl rfl rfl ?_
        refine fs_iadd (pc2 := 98) rfl rfl rfl ?_
        refine fs_aload_n (pc2 := 99) rfl rfl rfl rfl ?_
        refine fs_getr (pc2 := 102) rfl rfl rfl (by assumption) rfl ?_
        refine fs_iload (pc2 := 104) rfl rfl rfl rfl ?_
        try simp (disch := omega) only [nI_lit, pk_mul, nI_add, pk_sub, pk_rem4, nI_clamp, up2_o, up2_s, up2_i, cpV_o, cpV_i, e2]
        refine fs_iald (pc2 := 105) rfl rfl rfl (by assumption) (vp_in_nI (by omega) (by decide)) ?_
        try simp (disch := omega) only [nI_lit, pk_mul, nI_add, pk_sub, pk_rem4, nI_clamp, up2_o, up2_s, up2_i, cpV_o, cpV_i, e2]
        refine fs_iast (pc2 := 106) rfl rfl rfl (by assumption) (vp_in_nI (by omega) (by decide)) ?_
        refine fs_iinc (pc2 := 109) rfl rfl rfl (Nat.le_of_ble_eq_true rfl) rfl ?_
        refine fs_goto rfl rfl ?_
        try simp (disch := omega) only [nI_lit, pk_mul, nI_add, pk_sub, pk_rem4, nI_clamp, up2_o, up2_s, up2_i, cpV_o, cpV_i, e2]
        rw [cpV_1 rfl]
        exact ih (i + 1) (by omega)
  refine fs_aload_n (pc2 := 1) rfl rfl rfl rfl ?_
  refine fs_aload_n (pc2 := 2) rfl rfl rfl rfl ?_
  refine fs_iload_n (pc2 := 3) rfl rfl rfl rfl ?_
  refine fs_iload_n (pc2 := 4) rfl rfl rfl rfl ?_
  refine fs_iconst (pc2 := 5) rfl rfl rfl ?_
  try simp (disch := omega) only [nI_lit, pk_mul, nI_add, pk_sub, pk_rem4, nI_clamp, up2_o, up2_s, up2_i, cpV_o, cpV_i, ek, e2, e11, e15]
  refine fs_callv (pc2 := 8) rfl rfl rfl rfl ⟨rfl, rfl⟩ (Nat.le_of_ble_eq_true rfl) (Nat.le_of_ble_eq_true rfl) (Nat.le_of_ble_eq_true rfl) (fs_rcv rfl (by assumption)) (m_wrongS hm hM0 hh hk) (fun v9 sh9 V9 n9 hp9 => ?_)
  obtain ⟨ea9, eb9, ec9, hv9⟩ := hp9
  cases ea9
  obtain rfl := eb9.symm
  obtain rfl := ec9.symm
  cases hv9
  rw [if_pos hst]
  try simp (disch := omega) only [nI_lit, pk_mul, nI_add, pk_sub, pk_rem4, nI_clamp, up2_o, up2_s, up2_i, cpV_o, cpV_i, ek, e2, e11, e15]
  refine fs_callv (pc2 := 11) rfl rfl rfl rfl ⟨rfl, rfl⟩ (Nat.le_of_ble_eq_true rfl) (Nat.le_of_ble_eq_true rfl) (Nat.le_of_ble_eq_true rfl) (fs_rcv rfl (by assumption)) (m_refusedE hm (w := nI 0)) (fun v9 sh9 V9 n9 hp9 => ?_)
  obtain ⟨ea9, eb9, ec9, hv9⟩ := hp9
  cases ea9
  obtain rfl := eb9.symm
  obtain rfl := ec9.symm
  cases hv9
  rw [rf0]
  try simp (disch := omega) only [nI_lit, pk_mul, nI_add, pk_sub, pk_rem4, nI_clamp, up2_o, up2_s, up2_i, cpV_o, cpV_i, ek, e2, e11, e15]
  refine fs_if_eq (pc2 := 14) rfl rfl rfl (fun h11 => ?_) (fun h11 => ?_)
  · refine fs_iconst (pc2 := 17) rfl rfl rfl ?_
    refine fs_iload_n (pc2 := 18) rfl rfl rfl rfl ?_
    refine fs_imul (pc2 := 19) rfl rfl rfl ?_
    refine fs_iload_n (pc2 := 20) rfl rfl rfl rfl ?_
    refine fs_iadd (pc2 := 21) rfl rfl rfl ?_
    refine fs_bipush (pc2 := 23) rfl rfl rfl ?_
    refine fs_isub (pc2 := 24) rfl rfl rfl ?_
    refine fs_istore_n (pc2 := 25) rfl rfl rfl (Nat.le_of_ble_eq_true rfl) ?_
    refine fs_aload_n (pc2 := 26) rfl rfl rfl rfl ?_
    refine fs_geti (pc2 := 29) rfl rfl rfl (by assumption) rfl ?_
    refine fs_aload_n (pc2 := 30) rfl rfl rfl rfl ?_
    refine fs_getr (pc2 := 33) rfl rfl rfl (by assumption) rfl ?_
    refine fs_iload_n (pc2 := 34) rfl rfl rfl rfl ?_
    try simp (disch := omega) only [nI_lit, pk_mul, nI_add, pk_sub, pk_rem4, nI_clamp, up2_o, up2_s, up2_i, cpV_o, cpV_i, ek, e2, e11, e15]
    refine fs_iald (pc2 := 35) rfl rfl rfl (by assumption) (vp_in_nI (by omega) (by decide)) ?_
    try simp (disch := omega) only [nI_lit, pk_mul, nI_add, pk_sub, pk_rem4, nI_clamp, up2_o, up2_s, up2_i, cpV_o, cpV_i, ek, e2, e11, e15]
    refine fs_icmp_gt (pc2 := 38) rfl rfl rfl (fun h35 => ?_) (fun h35 => ?_)
    · have := c_nle h35 rfl rfl
      omega
    · refine fs_aload_n (pc2 := 39) rfl rfl rfl rfl ?_
      refine fs_getr (pc2 := 42) rfl rfl rfl (by assumption) rfl ?_
      refine fs_iload_n (pc2 := 43) rfl rfl rfl rfl ?_
      try simp (disch := omega) only [nI_lit, pk_mul, nI_add, pk_sub, pk_rem4, nI_clamp, up2_o, up2_s, up2_i, cpV_o, cpV_i, ek, e2, e11, e15]
      refine fs_iald (pc2 := 44) rfl rfl rfl (by assumption) (vp_in_nI (by omega) (by decide)) ?_
      refine fs_iconst (pc2 := 45) rfl rfl rfl ?_
      try simp (disch := omega) only [nI_lit, pk_mul, nI_add, pk_sub, pk_rem4, nI_clamp, up2_o, up2_s, up2_i, cpV_o, cpV_i, ek, e2, e11, e15]
      refine fs_icmp_ne (pc2 := 48) rfl rfl rfl (fun h45 => ?_) (fun h45 => ?_)
      · refine fs_iconst (pc2 := 52) rfl rfl rfl ?_
        refine fs_iload_n (pc2 := 53) rfl rfl rfl rfl ?_
        refine fs_imul (pc2 := 54) rfl rfl rfl ?_
        refine fs_aload_n (pc2 := 55) rfl rfl rfl rfl ?_
        refine fs_getr (pc2 := 58) rfl rfl rfl (by assumption) rfl ?_
        refine fs_iload_n (pc2 := 59) rfl rfl rfl rfl ?_
        try simp (disch := omega) only [nI_lit, pk_mul, nI_add, pk_sub, pk_rem4, nI_clamp, up2_o, up2_s, up2_i, cpV_o, cpV_i, ek, e2, e11, e15]
        refine fs_iald (pc2 := 60) rfl rfl rfl (by assumption) (vp_in_nI (by omega) (by decide)) ?_
        refine fs_iadd (pc2 := 61) rfl rfl rfl ?_
        refine fs_istore (pc2 := 63) rfl rfl rfl (Nat.le_of_ble_eq_true rfl) ?_
        refine fs_aload_n (pc2 := 64) rfl rfl rfl rfl ?_
        refine fs_getr (pc2 := 67) rfl rfl rfl (by assumption) rfl ?_
        refine fs_iload (pc2 := 69) rfl rfl rfl rfl ?_
        refine fs_aload_n (pc2 := 70) rfl rfl rfl rfl ?_
        refine fs_geti (pc2 := 73) rfl rfl rfl (by assumption) rfl ?_
        try simp (disch := omega) only [nI_lit, pk_mul, nI_add, pk_sub, pk_rem4, nI_clamp, up2_o, up2_s, up2_i, cpV_o, cpV_i, ek, e2, e11, e15]
        refine fs_iast (pc2 := 74) rfl rfl rfl (by assumption) (vp_in_nI (by omega) (by decide)) ?_
        refine fs_iconst (pc2 := 75) rfl rfl rfl ?_
        refine fs_istore (pc2 := 77) rfl rfl rfl (Nat.le_of_ble_eq_true rfl) ?_
        try simp (disch := omega) only [nI_lit, pk_mul, nI_add, pk_sub, pk_rem4, nI_clamp, up2_o, up2_s, up2_i, cpV_o, cpV_i, e2, e15]
        have l0 := loop S.length 0 (by omega)
        rw [cpV_0] at l0
        exact l0
      · have := c_eq (b := 2) h45 rfl rfl
        omega
  · first | exact absurd h11 (by decide) | exact absurd (by decide) h11
end MFEED
