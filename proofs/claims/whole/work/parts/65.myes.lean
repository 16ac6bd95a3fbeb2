theorem MS.add {V : fl_V} {mb : Nat} {S : List Nat} {b : Nat} (h : MS V mb S) (hb : b < 256) (hl : S.length < 120) : MS (up2 (up2 V (mb + 1) S.length (nI b)) mb 2 (nI (S.length + 1))) mb (S ++ [b]) := by
  obtain ⟨x1, x2, x3⟩ := h
  refine ⟨by rw [up2_s]; simp, by simp; omega, fun j c hj => ?_⟩
  rw [up2_o (by omega)]
  have lj := (List.getElem?_eq_some_iff.mp hj).1
  simp at lj
  by_cases q : j < S.length
  · rw [List.getElem?_append_left q] at hj
    rw [up2_i (by omega)]
    exact x3 j c hj
  · have : j = S.length := by omega
    subst this
    simp at hj
    subst hj
    rw [Nat.zero_add]
    exact ⟨up2_s, hb⟩
theorem isInB_len {u : Int32} {l : Nat} (hl : l ≤ 120) : isInB u (nI 0) (nI l - nI 1) = decide (0 ≤ u ∧ u < nI l) := by
  unfold isInB
  refine decide_eq_decide.mpr ?_
  have e1 : (nI l - nI 1).toInt = (l : Int) - 1 := pk_sub_toInt (by omega) (by decide)
  have e2 : (nI l).toInt = (l : Int) := nI_toInt (by omega)
  rw [Int32.lt_iff_toInt_lt, Int32.le_iff_toInt_le, Int32.le_iff_toInt_le, Int32.lt_iff_toInt_lt, e1, e2, show (nI 0).toInt = 0 from rfl, show (0 : Int32).toInt = 0 from rfl]
  omega
theorem in_120 {u : Int32} {l : Nat} (h : 0 ≤ u ∧ u < nI l) (hl : l ≤ 120) : vp_in u 120 ∧ u.toNatClampNeg < l := by
  have e2 : (nI l).toInt = (l : Int) := nI_toInt (by omega)
  obtain ⟨h1, h2⟩ := h
  rw [Int32.le_iff_toInt_le, show (0 : Int32).toInt = 0 from rfl] at h1
  rw [Int32.lt_iff_toInt_lt, e2] at h2
  have e3 : u.toNatClampNeg = u.toInt.toNat := rfl
  refine ⟨?_, by rw [e3]; omega⟩
  unfold vp_in
  rw [Int32.lt_iff_toInt_lt, show (0 : Int32).toInt = 0 from rfl, e3]
  omega
theorem MV.tell {V : fl_V} {mb h : Nat} {H : Ho} (hV : MV V mb h H.2.2.1) {s m p k : Nat} (hm0 : 0 < m) (hm : m < 65536) (hp : p < 65536) (hk : k < 65536) : MV (up2 (up2 (up2 (up2 V (mb + 2) (10 * h + s) (nI 1)) (mb + 3) (10 * h + s) (nI m)) (mb + 4) (10 * h + s) (nI p)) (mb + 5) (10 * h + s) (nI k)) mb h (ho_tell H s m p k).2.2.1 := by
  intro t ht
  obtain ⟨g1, g2, g3, g4, g5, g6, g7⟩ := hV t ht
  simp (disch := omega) only [up2_o]
  unfold ho_tell
  simp only [hoS]
  by_cases q : t = s
  · subst q
    simp only [up2_s]
    simp [va_up, hm0, hm, hp, hk]
    rfl
  · simp (disch := omega) only [up2_i, up2_o]
    simp [va_up, q]
    exact ⟨g1, g2, g3, g4, g5, g6, g7⟩
section MYES
variable {cy : Nat → ClassId} {z0 : Nat} {ext : Nat → Nat → List Value → ev_H → Nat → ev_P → Prop} {d : Nat} {sh : fl_S} {V : fl_V} {n mb : Nat} {T : Nat → Nat} {S : List Nat} {HH : Nat → Ho} {H : Ho} {h k : Nat}
set_option maxRecDepth 100000 in
set_option maxHeartbeats 4000000 in
theorem m_service (hm : isMo sh mb) (hM : Mo V mb T S HH) (hh : h < 2) {s m p c : Nat} (hs : s < 10) (hok : isToldB (nI h) (nI s) (nI m) (nI p) (nI c) = true) (hm0 : 0 < m) (hm6 : m < 65536) (hp6 : p < 65536) (hc6 : c < 65536) : fl_M cy z0 ext (d + 3) m_X7_service [.ref (z0 + mb), .int (nI h), .int (nI s), .int (nI m), .int (nI p), .int (nI c)] sh V n (fun v sh' V' n' => v = none ∧ sh' = sh ∧ n' = n ∧ Mo V' mb T S (va_up HH h (ho_tell (HH h) s m p c)) ∧ V' mb 0 = nI 0 ∧ OU mb V V') := by
  have m0 := hm.1
  have a2 : sh (mb + 2) = some (.inl (2, 20, none)) := hm.2 1 (2, 20) rfl
  have a3 : sh (mb + 3) = some (.inl (1, 20, none)) := hm.2 2 (1, 20) rfl
  have a4 : sh (mb + 4) = some (.inl (1, 20, none)) := hm.2 3 (1, 20) rfl
  have a5 : sh (mb + 5) = some (.inl (1, 20, none)) := hm.2 4 (1, 20) rfl
  have hHo := isHostM_nI hh
  have hM1 : Mo (up2 V mb 0 (nI 0)) mb T S (va_up HH h (HH h)) := (hM.at (h := h)).tmp FM.zero
  have hV := (hM1.host hh).2.1
  have b1 : ev_bn 7 (nI 1) = nI 1 := by decide
  refine fs_body rfl rfl (fun Ret hP => ?_)
  refine fs_aload_n (pc2 := 1) rfl rfl rfl rfl ?_
  refine fs_iload_n (pc2 := 2) rfl rfl rfl rfl ?_
  refine fs_iload_n (pc2 := 3) rfl rfl rfl rfl ?_
  refine fs_iload_n (pc2 := 4) rfl rfl rfl rfl ?_
  refine fs_iload (pc2 := 6) rfl rfl rfl rfl ?_
  refine fs_iload (pc2 := 8) rfl rfl rfl rfl ?_
  try simp (disch := omega) only [nI_lit, pk_mul, nI_add, pk_sub, pk_rem4, nI_clamp, up2_o, up2_s, up2_i, cpV_o, cpV_i, b1]
  refine fs_calls (pc2 := 11) rfl rfl rfl rfl rfl rfl ⟨rfl, rfl⟩ (Nat.le_of_ble_eq_true rfl) (Nat.le_of_ble_eq_true rfl) (Nat.le_of_ble_eq_true rfl) (m_isTold) (fun v9 sh9 V9 n9 hp9 => ?_)
  obtain ⟨ea9, eb9, ec9, hv9⟩ := hp9
  cases ea9
  obtain rfl := eb9.symm
  obtain rfl := ec9.symm
  cases hv9
  rw [hok]
  try simp (disch := omega) only [nI_lit, pk_mul, nI_add, pk_sub, pk_rem4, nI_clamp, up2_o, up2_s, up2_i, cpV_o, cpV_i, b1]
  refine fs_if_eq (pc2 := 14) rfl rfl rfl (fun h11 => ?_) (fun h11 => ?_)
  · exact absurd h11 (by decide)
  · refine fs_iconst (pc2 := 15) rfl rfl rfl ?_
    refine fs_goto rfl rfl ?_
    try simp (disch := omega) only [nI_lit, pk_mul, nI_add, pk_sub, pk_rem4, nI_clamp, up2_o, up2_s, up2_i, cpV_o, cpV_i, b1]
    refine fs_callv (pc2 := 22) rfl rfl rfl rfl ⟨rfl, rfl⟩ (Nat.le_of_ble_eq_true rfl) (Nat.le_of_ble_eq_true rfl) (Nat.le_of_ble_eq_true rfl) (fs_rcv rfl (by assumption)) (m_refusedE hm (w := nI 0)) (fun v9 sh9 V9 n9 hp9 => ?_)
    obtain ⟨ea9, eb9, ec9, hv9⟩ := hp9
    cases ea9
    obtain rfl := eb9.symm
    obtain rfl := ec9.symm
    cases hv9
    rw [rf0]
    try simp (disch := omega) only [nI_lit, pk_mul, nI_add, pk_sub, pk_rem4, nI_clamp, up2_o, up2_s, up2_i, cpV_o, cpV_i, b1]
    refine fs_if_eq (pc2 := 25) rfl rfl rfl (fun h22 => ?_) (fun h22 => ?_)
    · refine fs_aload_n (pc2 := 27) rfl rfl rfl rfl ?_
      refine fs_getr (pc2 := 30) rfl rfl rfl (by assumption) rfl ?_
      refine fs_bipush (pc2 := 32) rfl rfl rfl ?_
      refine fs_iload_n (pc2 := 33) rfl rfl rfl rfl ?_
      refine fs_imul (pc2 := 34) rfl rfl rfl ?_
      refine fs_iload_n (pc2 := 35) rfl rfl rfl rfl ?_
      refine fs_iadd (pc2 := 36) rfl rfl rfl ?_
      refine fs_iconst (pc2 := 37) rfl rfl rfl ?_
      try simp (disch := omega) only [nI_lit, pk_mul, nI_add, pk_sub, pk_rem4, nI_clamp, up2_o, up2_s, up2_i, cpV_o, cpV_i, b1]
      refine fs_bast (pc2 := 38) rfl rfl rfl rfl (by assumption) (vp_in_nI (by omega) (by decide)) ?_
      refine fs_aload_n (pc2 := 39) rfl rfl rfl rfl ?_
      refine fs_getr (pc2 := 42) rfl rfl rfl (by assumption) rfl ?_
      refine fs_bipush (pc2 := 44) rfl rfl rfl ?_
      refine fs_iload_n (pc2 := 45) rfl rfl rfl rfl ?_
      refine fs_imul (pc2 := 46) rfl rfl rfl ?_
      refine fs_iload_n (pc2 := 47) rfl rfl rfl rfl ?_
      refine fs_iadd (pc2 := 48) rfl rfl rfl ?_
      refine fs_iload_n (pc2 := 49) rfl rfl rfl rfl ?_
      try simp (disch := omega) only [nI_lit, pk_mul, nI_add, pk_sub, pk_rem4, nI_clamp, up2_o, up2_s, up2_i, cpV_o, cpV_i, b1]
      refine fs_iast (pc2 := 50) rfl rfl rfl (by assumption) (vp_in_nI (by omega) (by decide)) ?_
      refine fs_aload_n (pc2 := 51) rfl rfl rfl rfl ?_
      refine fs_getr (pc2 := 54) rfl rfl rfl (by assumption) rfl ?_
      refine fs_bipush (pc2 := 56) rfl rfl rfl ?_
      refine fs_iload_n (pc2 := 57) rfl rfl rfl rfl ?_
      refine fs_imul (pc2 := 58) rfl rfl rfl ?_
      refine fs_iload_n (pc2 := 59) rfl rfl rfl rfl ?_
      refine fs_iadd (pc2 := 60) rfl rfl rfl ?_
      refine fs_iload (pc2 := 62) rfl rfl rfl rfl ?_
      try simp (disch := omega) only [nI_lit, pk_mul, nI_add, pk_sub, pk_rem4, nI_clamp, up2_o, up2_s, up2_i, cpV_o, cpV_i, b1]
      refine fs_iast (pc2 := 63) rfl rfl rfl (by assumption) (vp_in_nI (by omega) (by decide)) ?_
      refine fs_aload_n (pc2 := 64) rfl rfl rfl rfl ?_
      refine fs_getr (pc2 := 67) rfl rfl rfl (by assumption) rfl ?_
      refine fs_bipush (pc2 := 69) rfl rfl rfl ?_
      refine fs_iload_n (pc2 := 70) rfl rfl rfl rfl ?_
      refine fs_imul (pc2 := 71) rfl rfl rfl ?_
      refine fs_iload_n (pc2 := 72) rfl rfl rfl rfl ?_
      refine fs_iadd (pc2 := 73) rfl rfl rfl ?_
      refine fs_iload (pc2 := 75) rfl rfl rfl rfl ?_
      try simp (disch := omega) only [nI_lit, pk_mul, nI_add, pk_sub, pk_rem4, nI_clamp, up2_o, up2_s, up2_i, cpV_o, cpV_i, b1]
      refine fs_iast (pc2 := 76) rfl rfl rfl (by assumption) (vp_in_nI (by omega) (by decide)) ?_
      try simp (disch := omega) only [nI_lit, pk_mul, nI_add, pk_sub, pk_rem4, nI_clamp, up2_o, up2_s, up2_i, cpV_o, cpV_i, b1]
      refine fs_ret rfl rfl ?_
      have hM2 := hM1.pV hh (((((FM.refl).up (j := 2) (by simp [own] <;> omega)).up (j := 3) (by simp [own] <;> omega)).up (j := 4) (by simp [own] <;> omega)).up (j := 5) (by simp [own] <;> omega)) (hV.tell hm0 hm6 hp6 hc6 (s := s))
      exact hP _ _ _ _ ⟨rfl, rfl, rfl, hM2, by simp (disch := omega) only [up2_o, up2_s], (((OU.zero.up (by decide)).up (by decide)).up (by decide)).up (by decide)⟩
    · exact absurd (by decide) h22
set_option maxRecDepth 100000 in
set_option maxHeartbeats 4000000 in
theorem m_erase (hm : isMo sh mb) (hM : Mo V mb T S HH) : fl_M cy z0 ext (d + 1) m_X7_erase [.ref (z0 + mb)] sh V n (fun v sh' V' n' => v = some (.int (nI S.length)) ∧ sh' = sh ∧ n' = n ∧ Mo V' mb T [] HH ∧ V' mb 0 = nI 0 ∧ OU mb V V') := by
  have m0 := hm.1
  have e2 := hM.1.1
  refine fs_body rfl rfl (fun Ret hP => ?_)
  refine fs_aload_n (pc2 := 1) rfl rfl rfl rfl ?_
  refine fs_iconst (pc2 := 2) rfl rfl rfl ?_
  refine fs_puti (pc2 := 5) rfl rfl rfl (by assumption) rfl True.intro ?_
  refine fs_aload_n (pc2 := 6) rfl rfl rfl rfl ?_
  refine fs_geti (pc2 := 9) rfl rfl rfl (by assumption) rfl ?_
  refine fs_istore_n (pc2 := 10) rfl rfl rfl (Nat.le_of_ble_eq_true rfl) ?_
  refine fs_aload_n (pc2 := 11) rfl rfl rfl rfl ?_
  refine fs_iconst (pc2 := 12) rfl rfl rfl ?_
  refine fs_puti (pc2 := 15) rfl rfl rfl (by assumption) rfl True.intro ?_
  refine fs_iload_n (pc2 := 16) rfl rfl rfl rfl ?_
  try simp (disch := omega) only [nI_lit, pk_mul, nI_add, pk_sub, pk_rem4, nI_clamp, up2_o, up2_s, up2_i, cpV_o, cpV_i, e2]
  refine fs_iret rfl rfl True.intro ?_
  exact hP _ _ _ _ ⟨rfl, rfl, rfl, (hM.tmp FM.zero).putS ⟨up2_s, by simp, fun j b hj => by simp at hj⟩ (FM.refl.up (j := 0) (i := 2) (by simp [own])), by simp (disch := omega) only [up2_i, up2_s], OU.zero.up0⟩
set_option maxRecDepth 100000 in
set_option maxHeartbeats 4000000 in
theorem m_octet (hm : isMo sh mb) (hM : Mo V mb T S HH) {u : Int32} : fl_M cy z0 ext (d + 2) m_X7_octet [.ref (z0 + mb), .int u] sh V n (fun v sh' V' n' => v = some (.int (if 0 ≤ u ∧ u < nI S.length then nI (S.getD u.toNatClampNeg 0) else -1)) ∧ sh' = sh ∧ n' = n ∧ Mo V' mb T S HH ∧ V' mb 0 = nI 0 ∧ OU mb V V') := by
  have m0 := hm.1
  have a1 : sh (mb + 1) = some (.inl (1, 120, none)) := hm.2 0 (1, 120) rfl
  have e2 := hM.1.1
  have l2 := hM.1.2.1
  have hM1 : Mo (up2 V mb 0 (nI 0)) mb T S HH := hM.tmp FM.zero
  refine fs_body rfl rfl (fun Ret hP => ?_)
  refine fs_aload_n (pc2 := 1) rfl rfl rfl rfl ?_
  refine fs_iconst (pc2 := 2) rfl rfl rfl ?_
  refine fs_puti (pc2 := 5) rfl rfl rfl (by assumption) rfl True.intro ?_
  refine fs_iload_n (pc2 := 6) rfl rfl rfl rfl ?_
  refine fs_iconst (pc2 := 7) rfl rfl rfl ?_
  refine fs_aload_n (pc2 := 8) rfl rfl rfl rfl ?_
  refine fs_geti (pc2 := 11) rfl rfl rfl (by assumption) rfl ?_
  refine fs_iconst (pc2 := 12) rfl rfl rfl ?_
  refine fs_isub (pc2 := 13) rfl rfl rfl ?_
  try simp (disch := omega) only [nI_lit, up2_o, up2_s, up2_i, e2]
  refine fs_calls (pc2 := 16) rfl rfl rfl rfl rfl rfl ⟨rfl, rfl⟩ (Nat.le_of_ble_eq_true rfl) (Nat.le_of_ble_eq_true rfl) (Nat.le_of_ble_eq_true rfl) (m_isIn (u := u) (a := nI 0) (b := nI S.length - nI 1)) (fun v9 sh9 V9 n9 hp9 => ?_)
  obtain ⟨ea9, eb9, ec9, hv9⟩ := hp9
  cases ea9
  obtain rfl := eb9.symm
  obtain rfl := ec9.symm
  cases hv9
  rw [isInB_len l2]
  first | simp (disch := omega) only [nI_lit, pk_mul, nI_add, pk_sub, pk_rem4, nI_clamp, up2_o, up2_s, up2_i, cpV_o, cpV_i, e2, e1] | simp (disch := omega) only [nI_lit, pk_mul, nI_add, pk_sub, pk_rem4, nI_clamp, up2_o, up2_s, up2_i, cpV_o, cpV_i, e2] | skip
  refine fs_if_eq (pc2 := 19) rfl rfl rfl (fun h16 => ?_) (fun h16 => ?_)
  · have k16 : ¬ (0 ≤ u ∧ u < nI S.length) := of_decide_eq_false (bI_0.mp h16)
    rw [if_neg k16] at hP
    refine fs_iconst (pc2 := 29) rfl rfl rfl ?_
    first | simp (disch := omega) only [nI_lit, pk_mul, nI_add, pk_sub, pk_rem4, nI_clamp, up2_o, up2_s, up2_i, cpV_o, cpV_i, e2, e1] | simp (disch := omega) only [nI_lit, pk_mul, nI_add, pk_sub, pk_rem4, nI_clamp, up2_o, up2_s, up2_i, cpV_o, cpV_i, e2] | skip
    refine fs_iret rfl rfl True.intro ?_
    exact hP _ _ _ _ ⟨rfl, rfl, rfl, hM1, up2_s, OU.zero⟩
  · have k16 : 0 ≤ u ∧ u < nI S.length := of_decide_eq_true (bI_t h16)
    rw [if_pos k16] at hP
    obtain ⟨i1, i2⟩ := in_120 k16 l2
    have e1 : V (mb + 1) u.toNatClampNeg = nI (S.getD u.toNatClampNeg 0) := by have := (hM.1.2.2.at i2).1; rwa [Nat.zero_add] at this
    refine fs_aload_n (pc2 := 20) rfl rfl rfl rfl ?_
    refine fs_getr (pc2 := 23) rfl rfl rfl (by assumption) rfl ?_
    refine fs_iload_n (pc2 := 24) rfl rfl rfl rfl ?_
    first | simp (disch := omega) only [nI_lit, pk_mul, nI_add, pk_sub, pk_rem4, nI_clamp, up2_o, up2_s, up2_i, cpV_o, cpV_i, e2, e1] | simp (disch := omega) only [nI_lit, pk_mul, nI_add, pk_sub, pk_rem4, nI_clamp, up2_o, up2_s, up2_i, cpV_o, cpV_i, e2] | skip
    refine fs_iald (pc2 := 25) rfl rfl rfl (by assumption) i1 ?_
    refine fs_goto rfl rfl ?_
    first | simp (disch := omega) only [nI_lit, pk_mul, nI_add, pk_sub, pk_rem4, nI_clamp, up2_o, up2_s, up2_i, cpV_o, cpV_i, e2, e1] | simp (disch := omega) only [nI_lit, pk_mul, nI_add, pk_sub, pk_rem4, nI_clamp, up2_o, up2_s, up2_i, cpV_o, cpV_i, e2] | skip
    refine fs_iret rfl rfl True.intro ?_
    exact hP _ _ _ _ ⟨rfl, rfl, rfl, hM1, up2_s, OU.zero⟩
set_option maxRecDepth 100000 in
set_option maxHeartbeats 4000000 in
theorem m_leave (hm : isMo sh mb) (hM : Mo V mb T S HH) (hh : h < 2) (hk : k < 4) (hst : ((HH h).2.1 k).1 1 = 2) (hT : ∀ i, i < 2 → T i < 2048) (hS : SI2 (va_up HH h (ho_leave (HH h) k))) : fl_M cy z0 ext (d + 6) m_X7_leave [.ref (z0 + mb), .int (nI h), .int (nI (64 + k))] sh V n (fun v sh' V' n' => v = none ∧ sh' = sh ∧ n' = n ∧ Mo V' mb (fun i => T i + 1) S (st_send (va_up HH h (ho_leave (HH h) k))) ∧ V' mb 0 = nI 0 ∧ OU mb V V') := by
  have m0 := hm.1
  have hHo := isHostM_nI hh
  have hM1 : Mo (up2 V mb 0 (nI 0)) mb T S (va_up HH h (HH h)) := (hM.at (h := h)).tmp FM.zero
  have ek : 4 * h + (64 + k) - 64 = 4 * h + k := by omega
  have hM0 := hM.at (h := h)
  refine fs_body rfl rfl (fun Ret hP => ?_)
  refine fs_aload_n (pc2 := 1) rfl rfl rfl rfl ?_
  refine fs_aload_n (pc2 := 2) rfl rfl rfl rfl ?_
  refine fs_iload_n (pc2 := 3) rfl rfl rfl rfl ?_
  refine fs_iload_n (pc2 := 4) rfl rfl rfl rfl ?_
  refine fs_iconst (pc2 := 5) rfl rfl rfl ?_
  try simp (disch := omega) only [nI_lit, pk_mul, nI_add, pk_sub, pk_rem4, nI_clamp, up2_o, up2_s, up2_i, cpV_o, cpV_i, ek]
  refine fs_callv (pc2 := 8) rfl rfl rfl rfl ⟨rfl, rfl⟩ (Nat.le_of_ble_eq_true rfl) (Nat.le_of_ble_eq_true rfl) (Nat.le_of_ble_eq_true rfl) (fs_rcv rfl (by assumption)) (m_wrongS hm hM0 hh hk) (fun v9 sh9 V9 n9 hp9 => ?_)
  obtain ⟨ea9, eb9, ec9, hv9⟩ := hp9
  cases ea9
  obtain rfl := eb9.symm
  obtain rfl := ec9.symm
  cases hv9
  rw [if_pos hst]
  try simp (disch := omega) only [nI_lit, pk_mul, nI_add, pk_sub, pk_rem4, nI_clamp, up2_o, up2_s, up2_i, cpV_o, cpV_i, ek]
  refine fs_callv (pc2 := 11) rfl rfl rfl rfl ⟨rfl, rfl⟩ (Nat.le_of_ble_eq_true rfl) (Nat.le_of_ble_eq_true rfl) (Nat.le_of_ble_eq_true rfl) (fs_rcv rfl (by assumption)) (m_refusedE hm (w := nI 0)) (fun v9 sh9 V9 n9 hp9 => ?_)
  obtain ⟨ea9, eb9, ec9, hv9⟩ := hp9
  cases ea9
  obtain rfl := eb9.symm
  obtain rfl := ec9.symm
  cases hv9
  rw [rf0]
  try simp (disch := omega) only [nI_lit, pk_mul, nI_add, pk_sub, pk_rem4, nI_clamp, up2_o, up2_s, up2_i, cpV_o, cpV_i, ek]
  refine fs_if_eq (pc2 := 14) rfl rfl rfl (fun h11 => ?_) (fun h11 => ?_)
  · refine fs_aload_n (pc2 := 16) rfl rfl rfl rfl ?_
    refine fs_iload_n (pc2 := 17) rfl rfl rfl rfl ?_
    refine fs_iconst (pc2 := 18) rfl rfl rfl ?_
    refine fs_iload_n (pc2 := 19) rfl rfl rfl rfl ?_
    refine fs_imul (pc2 := 20) rfl rfl rfl ?_
    refine fs_iload_n (pc2 := 21) rfl rfl rfl rfl ?_
    refine fs_iadd (pc2 := 22) rfl rfl rfl ?_
    refine fs_bipush (pc2 := 24) rfl rfl rfl ?_
    refine fs_isub (pc2 := 25) rfl rfl rfl ?_
    try simp (disch := omega) only [nI_lit, pk_mul, nI_add, pk_sub, pk_rem4, nI_clamp, up2_o, up2_s, up2_i, cpV_o, cpV_i, ek]
    refine fs_callv (pc2 := 28) rfl rfl rfl rfl ⟨rfl, rfl⟩ (Nat.le_of_ble_eq_true rfl) (Nat.le_of_ble_eq_true rfl) (Nat.le_of_ble_eq_true rfl) (fs_rcv rfl (by assumption)) (m_leaveNow hm hM1 hh hk hT) (fun v9 sh9 V9 n9 hp9 => ?_)
    obtain ⟨ea9, eb9, ec9, hM2, kp2⟩ := hp9
    cases ea9
    obtain rfl := eb9.symm
    obtain rfl := ec9.symm
    refine fs_aload_n (pc2 := 29) rfl rfl rfl rfl ?_
    try simp (disch := omega) only [nI_lit, pk_mul, nI_add, pk_sub, pk_rem4, nI_clamp, up2_o, up2_s, up2_i, cpV_o, cpV_i, ek]
    refine fs_callv (pc2 := 32) rfl rfl rfl rfl ⟨rfl, rfl⟩ (Nat.le_of_ble_eq_true rfl) (Nat.le_of_ble_eq_true rfl) (Nat.le_of_ble_eq_true rfl) (fs_rcv rfl (by assumption)) (m_sendBoth hm hM2 hS) (fun v9 sh9 V9 n9 hp9 => ?_)
    obtain ⟨ea9, eb9, ec9, hM3, kp3⟩ := hp9
    cases ea9
    obtain rfl := eb9.symm
    obtain rfl := ec9.symm
    try simp (disch := omega) only [nI_lit, pk_mul, nI_add, pk_sub, pk_rem4, nI_clamp, up2_o, up2_s, up2_i, cpV_o, cpV_i, ek]
    refine fs_ret rfl rfl ?_
    exact hP _ _ _ _ ⟨rfl, rfl, rfl, hM3, by rw [(kp2.trans kp3).1, up2_s], OU.zero.trans (kp2.trans kp3).2.2⟩
  · exact absurd (by decide) h11
set_option maxRecDepth 100000 in
set_option maxHeartbeats 4000000 in
theorem m_grant_full (hm : isMo sh mb) (hM : Mo V mb T S HH) (hh : h < 2) (hk : k < 4) (hst : ((HH h).2.1 k).1 1 = 2) {cr : Nat} (hc1 : 1 ≤ cr) (hc2 : cr ≤ 1000) (hg : 65535 < ((HH h).2.1 k).1 5 + cr) : fl_M cy z0 ext (d + 6) m_X7_grant [.ref (z0 + mb), .int (nI h), .int (nI (64 + k)), .int (nI cr)] sh V n (fun v sh' V' n' => v = some (.int (-2)) ∧ sh' = sh ∧ n' = n ∧ Mo V' mb T S HH ∧ V' mb 0 = nI 0 ∧ OU mb V V') := by
  have m0 := hm.1
  have a9 : sh (mb + 9) = some (.inl (1, 8, none)) := hm.2 8 (1, 8) rfl
  have hHo := isHostM_nI hh
  have hM1 : Mo (up2 V mb 0 (nI 0)) mb T S (va_up HH h (HH h)) := (hM.at (h := h)).tmp FM.zero
  have ek : 4 * h + (64 + k) - 64 = 4 * h + k := by omega
  have hM0 := hM.at (h := h)
  have hC := (hM1.host hh).2.2.2.2.2.2 k hk
  obtain ⟨e9x, l9⟩ := hC.num (5, 9) (by decide)
  dsimp only at e9x l9
  have e9 : V (mb + 9) (4 * h + k) = nI (((HH h).2.1 k).1 5) := by rw [← e9x, up2_o (by omega)]
  have hIn : isInB (nI cr) (nI 1) (nI 1000) = true := by rw [isInB_nI (by omega) (by decide) (by decide)]; exact decide_eq_true (by omega)
  refine fs_body rfl rfl (fun Ret hP => ?_)
  refine fs_aload_n (pc2 := 1) rfl rfl rfl rfl ?_
  refine fs_aload_n (pc2 := 2) rfl rfl rfl rfl ?_
  refine fs_iload_n (pc2 := 3) rfl rfl rfl rfl ?_
  refine fs_iload_n (pc2 := 4) rfl rfl rfl rfl ?_
  refine fs_iload_n (pc2 := 5) rfl rfl rfl rfl ?_
  refine fs_iconst (pc2 := 6) rfl rfl rfl ?_
  refine fs_sipush (pc2 := 9) rfl rfl rfl ?_
  try simp (disch := omega) only [nI_lit, pk_mul, nI_add, pk_sub, pk_rem4, nI_clamp, up2_o, up2_s, up2_i, cpV_o, cpV_i, ek, e9]
  refine fs_calls (pc2 := 12) rfl rfl rfl rfl rfl rfl ⟨rfl, rfl⟩ (Nat.le_of_ble_eq_true rfl) (Nat.le_of_ble_eq_true rfl) (Nat.le_of_ble_eq_true rfl) (m_isIn (u := nI cr) (a := nI 1) (b := nI 1000)) (fun v9 sh9 V9 n9 hp9 => ?_)
  obtain ⟨ea9, eb9, ec9, hv9⟩ := hp9
  cases ea9
  obtain rfl := eb9.symm
  obtain rfl := ec9.symm
  cases hv9
  rw [hIn]
  try simp (disch := omega) only [nI_lit, pk_mul, nI_add, pk_sub, pk_rem4, nI_clamp, up2_o, up2_s, up2_i, cpV_o, cpV_i, ek, e9]
  refine fs_callv (pc2 := 15) rfl rfl rfl rfl ⟨rfl, rfl⟩ (Nat.le_of_ble_eq_true rfl) (Nat.le_of_ble_eq_true rfl) (Nat.le_of_ble_eq_true rfl) (fs_rcv rfl (by assumption)) (m_wrongS hm hM0 hh hk) (fun v9 sh9 V9 n9 hp9 => ?_)
  obtain ⟨ea9, eb9, ec9, hv9⟩ := hp9
  cases ea9
  obtain rfl := eb9.symm
  obtain rfl := ec9.symm
  cases hv9
  rw [if_pos hst]
  try simp (disch := omega) only [nI_lit, pk_mul, nI_add, pk_sub, pk_rem4, nI_clamp, up2_o, up2_s, up2_i, cpV_o, cpV_i, ek, e9]
  refine fs_callv (pc2 := 18) rfl rfl rfl rfl ⟨rfl, rfl⟩ (Nat.le_of_ble_eq_true rfl) (Nat.le_of_ble_eq_true rfl) (Nat.le_of_ble_eq_true rfl) (fs_rcv rfl (by assumption)) (m_refusedE hm (w := nI 0)) (fun v9 sh9 V9 n9 hp9 => ?_)
  obtain ⟨ea9, eb9, ec9, hv9⟩ := hp9
  cases ea9
  obtain rfl := eb9.symm
  obtain rfl := ec9.symm
  cases hv9
  rw [rf0]
  try simp (disch := omega) only [nI_lit, pk_mul, nI_add, pk_sub, pk_rem4, nI_clamp, up2_o, up2_s, up2_i, cpV_o, cpV_i, ek, e9]
  refine fs_if_eq (pc2 := 21) rfl rfl rfl (fun h18 => ?_) (fun h18 => ?_)
  · refine fs_iconst (pc2 := 24) rfl rfl rfl ?_
    refine fs_iload_n (pc2 := 25) rfl rfl rfl rfl ?_
    refine fs_imul (pc2 := 26) rfl rfl rfl ?_
    refine fs_iload_n (pc2 := 27) rfl rfl rfl rfl ?_
    refine fs_iadd (pc2 := 28) rfl rfl rfl ?_
    refine fs_bipush (pc2 := 30) rfl rfl rfl ?_
    refine fs_isub (pc2 := 31) rfl rfl rfl ?_
    refine fs_istore (pc2 := 33) rfl rfl rfl (Nat.le_of_ble_eq_true rfl) ?_
    refine fs_aload_n (pc2 := 34) rfl rfl rfl rfl ?_
    refine fs_getr (pc2 := 37) rfl rfl rfl (by assumption) rfl ?_
    refine fs_iload (pc2 := 39) rfl rfl rfl rfl ?_
    try simp (disch := omega) only [nI_lit, pk_mul, nI_add, pk_sub, pk_rem4, nI_clamp, up2_o, up2_s, up2_i, cpV_o, cpV_i, ek, e9]
    refine fs_iald (pc2 := 40) rfl rfl rfl (by assumption) (vp_in_nI (by omega) (by decide)) ?_
    refine fs_iload_n (pc2 := 41) rfl rfl rfl rfl ?_
    refine fs_iadd (pc2 := 42) rfl rfl rfl ?_
    refine fs_ldc (pc2 := 44) rfl rfl rfl ?_
    try simp (disch := omega) only [nI_lit, pk_mul, nI_add, pk_sub, pk_rem4, nI_clamp, up2_o, up2_s, up2_i, cpV_o, cpV_i, ek, e9]
    refine fs_icmp_le (pc2 := 47) rfl rfl rfl (fun h44 => ?_) (fun h44 => ?_)
    · have := c_le (b := 65535) h44 rfl rfl
      omega
    · refine fs_bipush (pc2 := 49) rfl rfl rfl ?_
      try simp (disch := omega) only [nI_lit, pk_mul, nI_add, pk_sub, pk_rem4, nI_clamp, up2_o, up2_s, up2_i, cpV_o, cpV_i, ek, e9]
      refine fs_iret rfl rfl True.intro ?_
      rw [va_up_id] at hM1
      exact hP _ _ _ _ ⟨rfl, rfl, rfl, hM1, up2_s, OU.zero⟩
  · exact absurd (by decide) h18
set_option maxRecDepth 100000 in
set_option maxHeartbeats 4000000 in
theorem m_grant (hm : isMo sh mb) (hM : Mo V mb T S HH) (hh : h < 2) (hk : k < 4) (hst : ((HH h).2.1 k).1 1 = 2) {cr : Nat} (hc1 : 1 ≤ cr) (hc2 : cr ≤ 1000) (hg : ((HH h).2.1 k).1 5 + cr ≤ 65535) (hT : ∀ i, i < 2 → T i < 2048) (hS : SI2 (va_up HH h (ho_give (HH h) k cr))) : fl_M cy z0 ext (d + 6) m_X7_grant [.ref (z0 + mb), .int (nI h), .int (nI (64 + k)), .int (nI cr)] sh V n (fun v sh' V' n' => v = some (.int (nI (((st_send (va_up HH h (ho_give (HH h) k cr)) h).2.1 k).1 5))) ∧ sh' = sh ∧ n' = n ∧ Mo V' mb (fun i => T i + 1) S (st_send (va_up HH h (ho_give (HH h) k cr))) ∧ V' mb 0 = nI 0 ∧ OU mb V V') := by
  have m0 := hm.1
  have a9 : sh (mb + 9) = some (.inl (1, 8, none)) := hm.2 8 (1, 8) rfl
  have hHo := isHostM_nI hh
  have hM1 : Mo (up2 V mb 0 (nI 0)) mb T S (va_up HH h (HH h)) := (hM.at (h := h)).tmp FM.zero
  have ek : 4 * h + (64 + k) - 64 = 4 * h + k := by omega
  have hM0 := hM.at (h := h)
  have hC := (hM1.host hh).2.2.2.2.2.2 k hk
  obtain ⟨e9x, l9⟩ := hC.num (5, 9) (by decide)
  dsimp only at e9x l9
  have e9 : V (mb + 9) (4 * h + k) = nI (((HH h).2.1 k).1 5) := by rw [← e9x, up2_o (by omega)]
  have hIn : isInB (nI cr) (nI 1) (nI 1000) = true := by rw [isInB_nI (by omega) (by decide) (by decide)]; exact decide_eq_true (by omega)
  have li : ho_id (HH h) ≤ 255 ∧ 0 < ho_id (HH h) := by unfold ho_id; split <;> omega
  have hM2 := hM1.pC hh hk (FM.refl.up (j := 9) (i := 4 * h + k) (v := nI (((HH h).2.1 k).1 5 + cr)) (by simp [own])) (hC.pI (5, 9) (v := ((HH h).2.1 k).1 5 + cr) (by decide) (by omega))
  refine fs_body rfl rfl (fun Ret hP => ?_)
  refine fs_aload_n (pc2 := 1) rfl rfl rfl rfl ?_
  refine fs_aload_n (pc2 := 2) rfl rfl rfl rfl ?_
  refine fs_iload_n (pc2 := 3) rfl rfl rfl rfl ?_
  refine fs_iload_n (pc2 := 4) rfl rfl rfl rfl ?_
  refine fs_iload_n (pc2 := 5) rfl rfl rfl rfl ?_
  refine fs_iconst (pc2 := 6) rfl rfl rfl ?_
  refine fs_sipush (pc2 := 9) rfl rfl rfl ?_
  try simp (disch := omega) only [nI_lit, pk_mul, nI_add, pk_sub, pk_rem4, nI_clamp, up2_o, up2_s, up2_i, cpV_o, cpV_i, ek, e9]
  refine fs_calls (pc2 := 12) rfl rfl rfl rfl rfl rfl ⟨rfl, rfl⟩ (Nat.le_of_ble_eq_true rfl) (Nat.le_of_ble_eq_true rfl) (Nat.le_of_ble_eq_true rfl) (m_isIn (u := nI cr) (a := nI 1) (b := nI 1000)) (fun v9 sh9 V9 n9 hp9 => ?_)
  obtain ⟨ea9, eb9, ec9, hv9⟩ := hp9
  cases ea9
  obtain rfl := eb9.symm
  obtain rfl := ec9.symm
  cases hv9
  rw [hIn]
  try simp (disch := omega) only [nI_lit, pk_mul, nI_add, pk_sub, pk_rem4, nI_clamp, up2_o, up2_s, up2_i, cpV_o, cpV_i, ek, e9]
  refine fs_callv (pc2 := 15) rfl rfl rfl rfl ⟨rfl, rfl⟩ (Nat.le_of_ble_eq_true rfl) (Nat.le_of_ble_eq_true rfl) (Nat.le_of_ble_eq_true rfl) (fs_rcv rfl (by assumption)) (m_wrongS hm hM0 hh hk) (fun v9 sh9 V9 n9 hp9 => ?_)
  obtain ⟨ea9, eb9, ec9, hv9⟩ := hp9
  cases ea9
  obtain rfl := eb9.symm
  obtain rfl := ec9.symm
  cases hv9
  rw [if_pos hst]
  try simp (disch := omega) only [nI_lit, pk_mul, nI_add, pk_sub, pk_rem4, nI_clamp, up2_o, up2_s, up2_i, cpV_o, cpV_i, ek, e9]
  refine fs_callv (pc2 := 18) rfl rfl rfl rfl ⟨rfl, rfl⟩ (Nat.le_of_ble_eq_true rfl) (Nat.le_of_ble_eq_true rfl) (Nat.le_of_ble_eq_true rfl) (fs_rcv rfl (by assumption)) (m_refusedE hm (w := nI 0)) (fun v9 sh9 V9 n9 hp9 => ?_)
  obtain ⟨ea9, eb9, ec9, hv9⟩ := hp9
  cases ea9
  obtain rfl := eb9.symm
  obtain rfl := ec9.symm
  cases hv9
  rw [rf0]
  try simp (disch := omega) only [nI_lit, pk_mul, nI_add, pk_sub, pk_rem4, nI_clamp, up2_o, up2_s, up2_i, cpV_o, cpV_i, ek, e9]
  refine fs_if_eq (pc2 := 21) rfl rfl rfl (fun h18 => ?_) (fun h18 => ?_)
  · refine fs_iconst (pc2 := 24) rfl rfl rfl ?_
    refine fs_iload_n (pc2 := 25) rfl rfl rfl rfl ?_
    refine fs_imul (pc2 := 26) rfl rfl rfl ?_
    refine fs_iload_n (pc2 := 27) rfl rfl rfl rfl ?_
    refine fs_iadd (pc2 := 28) rfl rfl rfl ?_
    refine fs_bipush (pc2 := 30) rfl rfl rfl ?_
    refine fs_isub (pc2 := 31) rfl rfl rfl ?_
    refine fs_istore (pc2 := 33) rfl rfl rfl (Nat.le_of_ble_eq_true rfl) ?_
    refine fs_aload_n (pc2 := 34) rfl rfl rfl rfl ?_
    refine fs_getr (pc2 := 37) rfl rfl rfl (by assumption) rfl ?_
    refine fs_iload (pc2 := 39) rfl rfl rfl rfl ?_
    try simp (disch := omega) only [nI_lit, pk_mul, nI_add, pk_sub, pk_rem4, nI_clamp, up2_o, up2_s, up2_i, cpV_o, cpV_i, ek, e9]
    refine fs_iald (pc2 := 40) rfl rfl rfl (by assumption) (vp_in_nI (by omega) (by decide)) ?_
    refine fs_iload_n (pc2 := 41) rfl rfl rfl rfl ?_
    refine fs_iadd (pc2 := 42) rfl rfl rfl ?_
    refine fs_ldc (pc2 := 44) rfl rfl rfl ?_
    try simp (disch := omega) only [nI_lit, pk_mul, nI_add, pk_sub, pk_rem4, nI_clamp, up2_o, up2_s, up2_i, cpV_o, cpV_i, ek, e9]
    refine fs_icmp_le (pc2 := 47) rfl rfl rfl (fun h44 => ?_) (fun h44 => ?_)
    · refine fs_aload_n (pc2 := 51) rfl rfl rfl rfl ?_
      refine fs_getr (pc2 := 54) rfl rfl rfl (by assumption) rfl ?_
      refine fs_iload (pc2 := 56) rfl rfl rfl rfl ?_
      refine fs_aload_n (pc2 := 57) rfl rfl rfl rfl ?_
      refine fs_getr (pc2 := 60) rfl rfl rfl (by assumption) rfl ?_
      refine fs_iload (pc2 := 62) rfl rfl rfl rfl ?_
      try simp (disch := omega) only [nI_lit, pk_mul, nI_add, pk_sub, pk_rem4, nI_clamp, up2_o, up2_s, up2_i, cpV_o, cpV_i, ek, e9]
      refine fs_iald (pc2 := 63) rfl rfl rfl (by assumption) (vp_in_nI (by omega) (by decide)) ?_
      refine fs_iload_n (pc2 := 64) rfl rfl rfl rfl ?_
      refine fs_iadd (pc2 := 65) rfl rfl rfl ?_
      try simp (disch := omega) only [nI_lit, pk_mul, nI_add, pk_sub, pk_rem4, nI_clamp, up2_o, up2_s, up2_i, cpV_o, cpV_i, ek, e9]
      refine fs_iast (pc2 := 66) rfl rfl rfl (by assumption) (vp_in_nI (by omega) (by decide)) ?_
      refine fs_aload_n (pc2 := 67) rfl rfl rfl rfl ?_
      refine fs_bipush (pc2 := 69) rfl rfl rfl ?_
      refine fs_aload_n (pc2 := 70) rfl rfl rfl rfl ?_
      refine fs_iload_n (pc2 := 71) rfl rfl rfl rfl ?_
      try simp (disch := omega) only [nI_lit, pk_mul, nI_add, pk_sub, pk_rem4, nI_clamp, up2_o, up2_s, up2_i, cpV_o, cpV_i, ek, e9]
      refine fs_callv (pc2 := 74) rfl rfl rfl rfl ⟨rfl, rfl⟩ (Nat.le_of_ble_eq_true rfl) (Nat.le_of_ble_eq_true rfl) (Nat.le_of_ble_eq_true rfl) (fs_rcv rfl (by assumption)) (m_takeId hm hM2 hh) (fun v9 sh9 V9 n9 hp9 => ?_)
      obtain ⟨ea9, eb9, ec9, hM3, kp3⟩ := hp9
      cases ea9
      obtain rfl := eb9.symm
      obtain rfl := ec9.symm
      refine fs_iconst (pc2 := 75) rfl rfl rfl ?_
      try simp (disch := omega) only [nI_lit, pk_mul, nI_add, pk_sub, pk_rem4, nI_clamp, up2_o, up2_s, up2_i, cpV_o, cpV_i, ek, e9]
      refine fs_callv (pc2 := 78) rfl rfl rfl rfl ⟨rfl, rfl⟩ (Nat.le_of_ble_eq_true rfl) (Nat.le_of_ble_eq_true rfl) (Nat.le_of_ble_eq_true rfl) (fs_rcv rfl (by assumption)) (m_begin hm hM3 (co := 22) (sid := ho_id (HH h)) (l := 4) (by decide) (by omega) (by decide)) (fun v9 sh9 V9 n9 hp9 => ?_)
      obtain ⟨ea9, eb9, ec9, hM4, hX4, kh4, kf4, ko4⟩ := hp9
      cases ea9
      obtain rfl := eb9.symm
      obtain rfl := ec9.symm
      have kp4 := kp3.trans ⟨kf4, kh4, ko4⟩
      refine fs_aload_n (pc2 := 79) rfl rfl rfl rfl ?_
      refine fs_iload_n (pc2 := 80) rfl rfl rfl rfl ?_
      try simp (disch := omega) only [nI_lit, pk_mul, nI_add, pk_sub, pk_rem4, nI_clamp, up2_o, up2_s, up2_i, cpV_o, cpV_i, ek, e9]
      refine fs_callv (pc2 := 83) rfl rfl rfl rfl ⟨rfl, rfl⟩ (Nat.le_of_ble_eq_true rfl) (Nat.le_of_ble_eq_true rfl) (Nat.le_of_ble_eq_true rfl) (fs_rcv rfl (by assumption)) (m_two hm hM4 hX4 (by simp) (k := 64 + k) (by omega)) (fun v9 sh9 V9 n9 hp9 => ?_)
      obtain ⟨ea9, eb9, ec9, hM5, hX5, kh5, kf5, ko5⟩ := hp9
      cases ea9
      obtain rfl := eb9.symm
      obtain rfl := ec9.symm
      have kp5 := kp4.trans ⟨kf5, kh5, ko5⟩
      refine fs_aload_n (pc2 := 84) rfl rfl rfl rfl ?_
      refine fs_iload_n (pc2 := 85) rfl rfl rfl rfl ?_
      try simp (disch := omega) only [nI_lit, pk_mul, nI_add, pk_sub, pk_rem4, nI_clamp, up2_o, up2_s, up2_i, cpV_o, cpV_i, ek, e9]
      refine fs_callv (pc2 := 88) rfl rfl rfl rfl ⟨rfl, rfl⟩ (Nat.le_of_ble_eq_true rfl) (Nat.le_of_ble_eq_true rfl) (Nat.le_of_ble_eq_true rfl) (fs_rcv rfl (by assumption)) (m_two hm hM5 hX5 (by simp) (k := cr) (by omega)) (fun v9 sh9 V9 n9 hp9 => ?_)
      obtain ⟨ea9, eb9, ec9, hM6, hX6, kh6, kf6, ko6⟩ := hp9
      cases ea9
      obtain rfl := eb9.symm
      obtain rfl := ec9.symm
      have kp6 := kp5.trans ⟨kf6, kh6, ko6⟩
      refine fs_aload_n (pc2 := 89) rfl rfl rfl rfl ?_
      refine fs_iload_n (pc2 := 90) rfl rfl rfl rfl ?_
      try simp (disch := omega) only [nI_lit, pk_mul, nI_add, pk_sub, pk_rem4, nI_clamp, up2_o, up2_s, up2_i, cpV_o, cpV_i, ek, e9]
      refine fs_callv (pc2 := 93) rfl rfl rfl rfl ⟨rfl, rfl⟩ (Nat.le_of_ble_eq_true rfl) (Nat.le_of_ble_eq_true rfl) (Nat.le_of_ble_eq_true rfl) (fs_rcv rfl (by assumption)) (m_wait hm hM6 hh hX6 (by simp) hT) (fun v9 sh9 V9 n9 hp9 => ?_)
      obtain ⟨ea9, eb9, ec9, hM7, kp7⟩ := hp9
      cases ea9
      obtain rfl := eb9.symm
      obtain rfl := ec9.symm
      have kp7b := kp6.trans kp7
      refine fs_aload_n (pc2 := 94) rfl rfl rfl rfl ?_
      try simp (disch := omega) only [nI_lit, pk_mul, nI_add, pk_sub, pk_rem4, nI_clamp, up2_o, up2_s, up2_i, cpV_o, cpV_i, ek, e9]
      refine fs_callv (pc2 := 97) rfl rfl rfl rfl ⟨rfl, rfl⟩ (Nat.le_of_ble_eq_true rfl) (Nat.le_of_ble_eq_true rfl) (Nat.le_of_ble_eq_true rfl) (fs_rcv rfl (by assumption)) (m_sendBoth hm (HH := va_up HH h (ho_give (HH h) k cr)) hM7 hS) (fun v9 sh9 V9 n9 hp9 => ?_)
      obtain ⟨ea9, eb9, ec9, hM8, kp8⟩ := hp9
      cases ea9
      obtain rfl := eb9.symm
      obtain rfl := ec9.symm
      have kp8b := kp7b.trans kp8
      have e9b : V9 (mb + 9) (4 * h + k) = nI (((st_send (va_up HH h (ho_give (HH h) k cr)) h).2.1 k).1 5) := ((hM8.2 h hh).2.2.2.2.2.2 k hk).1 (5, 9) (by decide)
      refine fs_aload_n (pc2 := 98) rfl rfl rfl rfl ?_
      refine fs_getr (pc2 := 101) rfl rfl rfl (by assumption) rfl ?_
      refine fs_iload (pc2 := 103) rfl rfl rfl rfl ?_
      first | simp (disch := omega) only [nI_lit, pk_mul, nI_add, pk_sub, pk_rem4, nI_clamp, up2_o, up2_s, up2_i, cpV_o, cpV_i, ek, e9, e9b] | simp (disch := omega) only [nI_lit, pk_mul, nI_add, pk_sub, pk_rem4, nI_clamp, up2_o, up2_s, up2_i, cpV_o, cpV_i, ek, e9] | skip
      refine fs_iald (pc2 := 104) rfl rfl rfl (by assumption) (vp_in_nI (by omega) (by decide)) ?_
      first | simp (disch := omega) only [nI_lit, pk_mul, nI_add, pk_sub, pk_rem4, nI_clamp, up2_o, up2_s, up2_i, cpV_o, cpV_i, ek, e9, e9b] | simp (disch := omega) only [nI_lit, pk_mul, nI_add, pk_sub, pk_rem4, nI_clamp, up2_o, up2_s, up2_i, cpV_o, cpV_i, ek, e9] | skip
      refine fs_iret rfl rfl True.intro ?_
      exact hP _ _ _ _ ⟨rfl, rfl, rfl, hM8, by rw [kp8b.1]; simp (disch := omega) only [up2_o, up2_s], (OU.zero.up (by decide)).trans kp8b.2.2⟩
    · have := c_nle (b := 65535) h44 rfl rfl
      omega
  · exact absurd (by decide) h18
set_option maxRecDepth 100000 in
set_option maxHeartbeats 4000000 in
theorem m_take0 (hm : isMo sh mb) (hM : Mo V mb T S HH) (hh : h < 2) (hw : (HH h).2.2.2.1 = []) : fl_M cy z0 ext (d + 10) m_X7_take [.ref (z0 + mb), .int (nI h)] sh V n (fun v sh' V' n' => v = some (.int (-1)) ∧ sh' = sh ∧ n' = n ∧ Mo V' mb T S HH ∧ V' mb 0 = nI 0 ∧ OU mb V V') := by
  have m0 := hm.1
  have a34 : sh (mb + 34) = some (.inl (1, 2, none)) := hm.2 33 (1, 2) rfl
  have a36 : sh (mb + 36) = some (.inl (2, 64, none)) := hm.2 35 (2, 64) rfl
  have hHo := isHostM_nI hh
  have hM1 : Mo (up2 V mb 0 (nI 0)) mb T S (va_up HH h (HH h)) := (hM.at (h := h)).tmp FM.zero
  have e34 : V (mb + 34) h = nI 0 := by have := (hM.2 h hh).2.2.1.1; rw [hw] at this; exact this
  refine fs_body rfl rfl (fun Ret hP => ?_)
  refine fs_aload_n (pc2 := 1) rfl rfl rfl rfl ?_
  refine fs_iload_n (pc2 := 2) rfl rfl rfl rfl ?_
  try simp (disch := omega) only [nI_lit, pk_mul, nI_add, pk_sub, pk_rem4, nI_clamp, up2_o, up2_s, up2_i, cpV_o, cpV_i, e34]
  refine fs_calls (pc2 := 5) rfl rfl rfl rfl rfl rfl ⟨rfl, rfl⟩ (Nat.le_of_ble_eq_true rfl) (Nat.le_of_ble_eq_true rfl) (Nat.le_of_ble_eq_true rfl) (m_isHost (u := nI h)) (fun v9 sh9 V9 n9 hp9 => ?_)
  obtain ⟨ea9, eb9, ec9, hv9⟩ := hp9
  cases ea9
  obtain rfl := eb9.symm
  obtain rfl := ec9.symm
  cases hv9
  rw [hHo]
  try simp (disch := omega) only [nI_lit, pk_mul, nI_add, pk_sub, pk_rem4, nI_clamp, up2_o, up2_s, up2_i, cpV_o, cpV_i, e34]
  refine fs_if_eq (pc2 := 8) rfl rfl rfl (fun h5 => ?_) (fun h5 => ?_)
  · exact absurd h5 (by decide)
  · refine fs_iconst (pc2 := 9) rfl rfl rfl ?_
    refine fs_goto rfl rfl ?_
    try simp (disch := omega) only [nI_lit, pk_mul, nI_add, pk_sub, pk_rem4, nI_clamp, up2_o, up2_s, up2_i, cpV_o, cpV_i, e34]
    refine fs_callv (pc2 := 16) rfl rfl rfl rfl ⟨rfl, rfl⟩ (Nat.le_of_ble_eq_true rfl) (Nat.le_of_ble_eq_true rfl) (Nat.le_of_ble_eq_true rfl) (fs_rcv rfl (by assumption)) (m_refusedE hm (w := nI 0)) (fun v9 sh9 V9 n9 hp9 => ?_)
    obtain ⟨ea9, eb9, ec9, hv9⟩ := hp9
    cases ea9
    obtain rfl := eb9.symm
    obtain rfl := ec9.symm
    cases hv9
    rw [rf0]
    try simp (disch := omega) only [nI_lit, pk_mul, nI_add, pk_sub, pk_rem4, nI_clamp, up2_o, up2_s, up2_i, cpV_o, cpV_i, e34]
    refine fs_if_eq (pc2 := 19) rfl rfl rfl (fun h16 => ?_) (fun h16 => ?_)
    · refine fs_aload_n (pc2 := 22) rfl rfl rfl rfl ?_
      refine fs_getr (pc2 := 25) rfl rfl rfl (by assumption) rfl ?_
      refine fs_iload_n (pc2 := 26) rfl rfl rfl rfl ?_
      try simp (disch := omega) only [nI_lit, pk_mul, nI_add, pk_sub, pk_rem4, nI_clamp, up2_o, up2_s, up2_i, cpV_o, cpV_i, e34]
      refine fs_iald (pc2 := 27) rfl rfl rfl (by assumption) (vp_in_nI (by omega) (by decide)) ?_
      try simp (disch := omega) only [nI_lit, pk_mul, nI_add, pk_sub, pk_rem4, nI_clamp, up2_o, up2_s, up2_i, cpV_o, cpV_i, e34]
      refine fs_if_ne (pc2 := 30) rfl rfl rfl (fun h27 => ?_) (fun h27 => ?_)
      · exact absurd h27 (by decide)
      · refine fs_iconst (pc2 := 31) rfl rfl rfl ?_
        try simp (disch := omega) only [nI_lit, pk_mul, nI_add, pk_sub, pk_rem4, nI_clamp, up2_o, up2_s, up2_i, cpV_o, cpV_i, e34]
        refine fs_iret rfl rfl True.intro ?_
        rw [va_up_id] at hM1
        exact hP _ _ _ _ ⟨rfl, rfl, rfl, hM1, up2_s, OU.zero⟩
    · exact absurd (by decide) h16
set_option maxRecDepth 100000 in
set_option maxHeartbeats 4000000 in
theorem m_lose0 (hm : isMo sh mb) (hM : Mo V mb T S HH) (hh : h < 2) (hw : (HH h).2.2.2.1 = []) : fl_M cy z0 ext (d + 10) m_X7_lose [.ref (z0 + mb), .int (nI h)] sh V n (fun v sh' V' n' => v = some (.int 0) ∧ sh' = sh ∧ n' = n ∧ Mo V' mb T S HH ∧ V' mb 0 = nI 0 ∧ OU mb V V') := by
  have m0 := hm.1
  have a34 : sh (mb + 34) = some (.inl (1, 2, none)) := hm.2 33 (1, 2) rfl
  have hHo := isHostM_nI hh
  have hM1 : Mo (up2 V mb 0 (nI 0)) mb T S (va_up HH h (HH h)) := (hM.at (h := h)).tmp FM.zero
  have e34 : V (mb + 34) h = nI 0 := by have := (hM.2 h hh).2.2.1.1; rw [hw] at this; exact this
  refine fs_body rfl rfl (fun Ret hP => ?_)
  refine fs_aload_n (pc2 := 1) rfl rfl rfl rfl ?_
  refine fs_iload_n (pc2 := 2) rfl rfl rfl rfl ?_
  try simp (disch := omega) only [nI_lit, pk_mul, nI_add, pk_sub, pk_rem4, nI_clamp, up2_o, up2_s, up2_i, cpV_o, cpV_i, e34]
  refine fs_calls (pc2 := 5) rfl rfl rfl rfl rfl rfl ⟨rfl, rfl⟩ (Nat.le_of_ble_eq_true rfl) (Nat.le_of_ble_eq_true rfl) (Nat.le_of_ble_eq_true rfl) (m_isHost (u := nI h)) (fun v9 sh9 V9 n9 hp9 => ?_)
  obtain ⟨ea9, eb9, ec9, hv9⟩ := hp9
  cases ea9
  obtain rfl := eb9.symm
  obtain rfl := ec9.symm
  cases hv9
  rw [hHo]
  try simp (disch := omega) only [nI_lit, pk_mul, nI_add, pk_sub, pk_rem4, nI_clamp, up2_o, up2_s, up2_i, cpV_o, cpV_i, e34]
  refine fs_if_eq (pc2 := 8) rfl rfl rfl (fun h5 => ?_) (fun h5 => ?_)
  · exact absurd h5 (by decide)
  · refine fs_iconst (pc2 := 9) rfl rfl rfl ?_
    refine fs_goto rfl rfl ?_
    try simp (disch := omega) only [nI_lit, pk_mul, nI_add, pk_sub, pk_rem4, nI_clamp, up2_o, up2_s, up2_i, cpV_o, cpV_i, e34]
    refine fs_callv (pc2 := 16) rfl rfl rfl rfl ⟨rfl, rfl⟩ (Nat.le_of_ble_eq_true rfl) (Nat.le_of_ble_eq_true rfl) (Nat.le_of_ble_eq_true rfl) (fs_rcv rfl (by assumption)) (m_refusedE hm (w := nI 0)) (fun v9 sh9 V9 n9 hp9 => ?_)
    obtain ⟨ea9, eb9, ec9, hv9⟩ := hp9
    cases ea9
    obtain rfl := eb9.symm
    obtain rfl := ec9.symm
    cases hv9
    rw [rf0]
    try simp (disch := omega) only [nI_lit, pk_mul, nI_add, pk_sub, pk_rem4, nI_clamp, up2_o, up2_s, up2_i, cpV_o, cpV_i, e34]
    refine fs_if_eq (pc2 := 19) rfl rfl rfl (fun h16 => ?_) (fun h16 => ?_)
    · refine fs_aload_n (pc2 := 22) rfl rfl rfl rfl ?_
      refine fs_getr (pc2 := 25) rfl rfl rfl (by assumption) rfl ?_
      refine fs_iload_n (pc2 := 26) rfl rfl rfl rfl ?_
      try simp (disch := omega) only [nI_lit, pk_mul, nI_add, pk_sub, pk_rem4, nI_clamp, up2_o, up2_s, up2_i, cpV_o, cpV_i, e34]
      refine fs_iald (pc2 := 27) rfl rfl rfl (by assumption) (vp_in_nI (by omega) (by decide)) ?_
      try simp (disch := omega) only [nI_lit, pk_mul, nI_add, pk_sub, pk_rem4, nI_clamp, up2_o, up2_s, up2_i, cpV_o, cpV_i, e34]
      refine fs_if_ne (pc2 := 30) rfl rfl rfl (fun h27 => ?_) (fun h27 => ?_)
      · exact absurd h27 (by decide)
      · refine fs_iconst (pc2 := 31) rfl rfl rfl ?_
        try simp (disch := omega) only [nI_lit, pk_mul, nI_add, pk_sub, pk_rem4, nI_clamp, up2_o, up2_s, up2_i, cpV_o, cpV_i, e34]
        refine fs_iret rfl rfl (Or.inl rfl) ?_
        rw [va_up_id] at hM1
        exact hP _ _ _ _ ⟨rfl, rfl, rfl, hM1, up2_s, OU.zero⟩
    · exact absurd (by decide) h16
set_option maxRecDepth 100000 in
set_option maxHeartbeats 4000000 in
theorem m_take (hm : isMo sh mb) (hM : Mo V mb T S HH) (hh : h < 2) {y : Pkt} {ps : List Pkt} (hw : (HH h).2.2.2.1 = y :: ps) (hI : HI (HH h)) (hT : ∀ i, i < 2 → T i < 2048) (hS : SI2 (va_up HH h (ho_take (HH h) y ps))) : fl_M cy z0 ext (d + 10) m_X7_take [.ref (z0 + mb), .int (nI h)] sh V n (fun v sh' V' n' => v = some (.int (nI y.2.2.length)) ∧ sh' = sh ∧ n' = n ∧ Mo V' mb (fun i => T i + 1) S (st_send (va_up HH h (ho_take (HH h) y ps))) ∧ V' mb 0 = nI 0 ∧ OU mb V V') := by
  have m0 := hm.1
  have a34 : sh (mb + 34) = some (.inl (1, 2, none)) := hm.2 33 (1, 2) rfl
  have a36 : sh (mb + 36) = some (.inl (2, 64, none)) := hm.2 35 (2, 64) rfl
  have hHo := isHostM_nI hh
  have hM1 : Mo (up2 V mb 0 (nI 0)) mb T S (va_up HH h (HH h)) := (hM.at (h := h)).tmp FM.zero
  have hW := (hM.2 h hh).2.2.1
  rw [hw] at hW
  have e34 : V (mb + 34) h = nI (ps.length + 1) := hW.1
  have l34 : ps.length + 1 ≤ 32 := hW.2.1
  obtain ⟨y0, e36, y2, ly, y4⟩ := hW.2.2 0 y rfl
  simp only [Nat.add_zero] at e36
  refine fs_body rfl rfl (fun Ret hP => ?_)
  refine fs_aload_n (pc2 := 1) rfl rfl rfl rfl ?_
  refine fs_iload_n (pc2 := 2) rfl rfl rfl rfl ?_
  try simp (disch := omega) only [nI_lit, pk_mul, nI_add, pk_sub, pk_rem4, nI_clamp, up2_o, up2_s, up2_i, cpV_o, cpV_i, e34, e36]
  refine fs_calls (pc2 := 5) rfl rfl rfl rfl rfl rfl ⟨rfl, rfl⟩ (Nat.le_of_ble_eq_true rfl) (Nat.le_of_ble_eq_true rfl) (Nat.le_of_ble_eq_true rfl) (m_isHost (u := nI h)) (fun v9 sh9 V9 n9 hp9 => ?_)
  obtain ⟨ea9, eb9, ec9, hv9⟩ := hp9
  cases ea9
  obtain rfl := eb9.symm
  obtain rfl := ec9.symm
  cases hv9
  rw [hHo]
  try simp (disch := omega) only [nI_lit, pk_mul, nI_add, pk_sub, pk_rem4, nI_clamp, up2_o, up2_s, up2_i, cpV_o, cpV_i, e34, e36]
  refine fs_if_eq (pc2 := 8) rfl rfl rfl (fun h5 => ?_) (fun h5 => ?_)
  · exact absurd h5 (by decide)
  · refine fs_iconst (pc2 := 9) rfl rfl rfl ?_
    refine fs_goto rfl rfl ?_
    try simp (disch := omega) only [nI_lit, pk_mul, nI_add, pk_sub, pk_rem4, nI_clamp, up2_o, up2_s, up2_i, cpV_o, cpV_i, e34, e36]
    refine fs_callv (pc2 := 16) rfl rfl rfl rfl ⟨rfl, rfl⟩ (Nat.le_of_ble_eq_true rfl) (Nat.le_of_ble_eq_true rfl) (Nat.le_of_ble_eq_true rfl) (fs_rcv rfl (by assumption)) (m_refusedE hm (w := nI 0)) (fun v9 sh9 V9 n9 hp9 => ?_)
    obtain ⟨ea9, eb9, ec9, hv9⟩ := hp9
    cases ea9
    obtain rfl := eb9.symm
    obtain rfl := ec9.symm
    cases hv9
    rw [rf0]
    try simp (disch := omega) only [nI_lit, pk_mul, nI_add, pk_sub, pk_rem4, nI_clamp, up2_o, up2_s, up2_i, cpV_o, cpV_i, e34, e36]
    refine fs_if_eq (pc2 := 19) rfl rfl rfl (fun h16 => ?_) (fun h16 => ?_)
    · refine fs_aload_n (pc2 := 22) rfl rfl rfl rfl ?_
      refine fs_getr (pc2 := 25) rfl rfl rfl (by assumption) rfl ?_
      refine fs_iload_n (pc2 := 26) rfl rfl rfl rfl ?_
      try simp (disch := omega) only [nI_lit, pk_mul, nI_add, pk_sub, pk_rem4, nI_clamp, up2_o, up2_s, up2_i, cpV_o, cpV_i, e34, e36]
      refine fs_iald (pc2 := 27) rfl rfl rfl (by assumption) (vp_in_nI (by omega) (by decide)) ?_
      try simp (disch := omega) only [nI_lit, pk_mul, nI_add, pk_sub, pk_rem4, nI_clamp, up2_o, up2_s, up2_i, cpV_o, cpV_i, e34, e36]
      refine fs_if_ne (pc2 := 30) rfl rfl rfl (fun h27 => ?_) (fun h27 => ?_)
      · refine fs_aload_n (pc2 := 33) rfl rfl rfl rfl ?_
        refine fs_getr (pc2 := 36) rfl rfl rfl (by assumption) rfl ?_
        refine fs_bipush (pc2 := 38) rfl rfl rfl ?_
        refine fs_iload_n (pc2 := 39) rfl rfl rfl rfl ?_
        refine fs_imul (pc2 := 40) rfl rfl rfl ?_
        try simp (disch := omega) only [nI_lit, pk_mul, nI_add, pk_sub, pk_rem4, nI_clamp, up2_o, up2_s, up2_i, cpV_o, cpV_i, e34, e36]
        refine fs_bald (pc2 := 41) rfl rfl rfl rfl (by assumption) (vp_in_nI (by omega) (by decide)) ?_
        refine fs_istore_n (pc2 := 42) rfl rfl rfl (Nat.le_of_ble_eq_true rfl) ?_
        refine fs_aload_n (pc2 := 43) rfl rfl rfl rfl ?_
        refine fs_iload_n (pc2 := 44) rfl rfl rfl rfl ?_
        try simp (disch := omega) only [nI_lit, pk_mul, nI_add, pk_sub, pk_rem4, nI_clamp, up2_o, up2_s, up2_i, cpV_o, cpV_i, e34, e36]
        refine fs_callv (pc2 := 47) rfl rfl rfl rfl ⟨rfl, rfl⟩ (Nat.le_of_ble_eq_true rfl) (Nat.le_of_ble_eq_true rfl) (Nat.le_of_ble_eq_true rfl) (fs_rcv rfl (by assumption)) (m_shift hm hM1 hh hw) (fun v9 sh9 V9 n9 hp9 => ?_)
        obtain ⟨ea9, eb9, ec9, hM2, hy2, ko2⟩ := hp9
        cases ea9
        obtain rfl := eb9.symm
        obtain rfl := ec9.symm
        refine fs_istore_n (pc2 := 48) rfl rfl rfl (Nat.le_of_ble_eq_true rfl) ?_
        refine fs_aload_n (pc2 := 49) rfl rfl rfl rfl ?_
        refine fs_iload_n (pc2 := 50) rfl rfl rfl rfl ?_
        refine fs_iload_n (pc2 := 51) rfl rfl rfl rfl ?_
        refine fs_iload_n (pc2 := 52) rfl rfl rfl rfl ?_
        try simp (disch := omega) only [nI_lit, pk_mul, nI_add, pk_sub, pk_rem4, nI_clamp, up2_o, up2_s, up2_i, cpV_o, cpV_i, e34, e36]
        refine fs_callv (pc2 := 55) rfl rfl rfl rfl ⟨rfl, rfl⟩ (Nat.le_of_ble_eq_true rfl) (Nat.le_of_ble_eq_true rfl) (Nat.le_of_ble_eq_true rfl) (fs_rcv rfl (by assumption)) (m_gather hm hM2 hh ly hy2 hI hT) (fun v9 sh9 V9 n9 hp9 => ?_)
        obtain ⟨ea9, eb9, ec9, hM3, ko3⟩ := hp9
        cases ea9
        obtain rfl := eb9.symm
        obtain rfl := ec9.symm
        rw [gth_take] at hM3
        refine fs_aload_n (pc2 := 56) rfl rfl rfl rfl ?_
        try simp (disch := omega) only [nI_lit, pk_mul, nI_add, pk_sub, pk_rem4, nI_clamp, up2_o, up2_s, up2_i, cpV_o, cpV_i, e34, e36]
        refine fs_callv (pc2 := 59) rfl rfl rfl rfl ⟨rfl, rfl⟩ (Nat.le_of_ble_eq_true rfl) (Nat.le_of_ble_eq_true rfl) (Nat.le_of_ble_eq_true rfl) (fs_rcv rfl (by assumption)) (m_sendBoth hm hM3 hS) (fun v9 sh9 V9 n9 hp9 => ?_)
        obtain ⟨ea9, eb9, ec9, hM4, kp4⟩ := hp9
        cases ea9
        obtain rfl := eb9.symm
        obtain rfl := ec9.symm
        refine fs_iload_n (pc2 := 60) rfl rfl rfl rfl ?_
        try simp (disch := omega) only [nI_lit, pk_mul, nI_add, pk_sub, pk_rem4, nI_clamp, up2_o, up2_s, up2_i, cpV_o, cpV_i, e34, e36]
        refine fs_iret rfl rfl True.intro ?_
        exact hP _ _ _ _ ⟨rfl, rfl, rfl, hM4, by rw [(ko2.trans (ko3.trans kp4.ko)).1, up2_s], OU.zero.trans (ko2.trans (ko3.trans kp4.ko)).2⟩
      · have := c_eq (b := 0) h27 rfl rfl
        omega
    · exact absurd (by decide) h16
set_option maxRecDepth 100000 in
set_option maxHeartbeats 4000000 in
theorem m_lose (hm : isMo sh mb) (hM : Mo V mb T S HH) (hh : h < 2) {y : Pkt} {ps : List Pkt} (hw : (HH h).2.2.2.1 = y :: ps) (hS : SI2 (va_up HH h (hoW (HH h) ps))) : fl_M cy z0 ext (d + 10) m_X7_lose [.ref (z0 + mb), .int (nI h)] sh V n (fun v sh' V' n' => v = some (.int 1) ∧ sh' = sh ∧ n' = n ∧ Mo V' mb T S (st_send (va_up HH h (hoW (HH h) ps))) ∧ V' mb 0 = nI 0 ∧ OU mb V V') := by
  have m0 := hm.1
  have a34 : sh (mb + 34) = some (.inl (1, 2, none)) := hm.2 33 (1, 2) rfl
  have hHo := isHostM_nI hh
  have hM1 : Mo (up2 V mb 0 (nI 0)) mb T S (va_up HH h (HH h)) := (hM.at (h := h)).tmp FM.zero
  have hW := (hM.2 h hh).2.2.1
  rw [hw] at hW
  have e34 : V (mb + 34) h = nI (ps.length + 1) := hW.1
  have l34 : ps.length + 1 ≤ 32 := hW.2.1
  obtain ⟨y0, e36, y2, ly, y4⟩ := hW.2.2 0 y rfl
  simp only [Nat.add_zero] at e36
  refine fs_body rfl rfl (fun Ret hP => ?_)
  refine fs_aload_n (pc2 := 1) rfl rfl rfl rfl ?_
  refine fs_iload_n (pc2 := 2) rfl rfl rfl rfl ?_
  try simp (disch := omega) only [nI_lit, pk_mul, nI_add, pk_sub, pk_rem4, nI_clamp, up2_o, up2_s, up2_i, cpV_o, cpV_i, e34]
  refine fs_calls (pc2 := 5) rfl rfl rfl rfl rfl rfl ⟨rfl, rfl⟩ (Nat.le_of_ble_eq_true rfl) (Nat.le_of_ble_eq_true rfl) (Nat.le_of_ble_eq_true rfl) (m_isHost (u := nI h)) (fun v9 sh9 V9 n9 hp9 => ?_)
  obtain ⟨ea9, eb9, ec9, hv9⟩ := hp9
  cases ea9
  obtain rfl := eb9.symm
  obtain rfl := ec9.symm
  cases hv9
  rw [hHo]
  try simp (disch := omega) only [nI_lit, pk_mul, nI_add, pk_sub, pk_rem4, nI_clamp, up2_o, up2_s, up2_i, cpV_o, cpV_i, e34]
  refine fs_if_eq (pc2 := 8) rfl rfl rfl (fun h5 => ?_) (fun h5 => ?_)
  · exact absurd h5 (by decide)
  · refine fs_iconst (pc2 := 9) rfl rfl rfl ?_
    refine fs_goto rfl rfl ?_
    try simp (disch := omega) only [nI_lit, pk_mul, nI_add, pk_sub, pk_rem4, nI_clamp, up2_o, up2_s, up2_i, cpV_o, cpV_i, e34]
    refine fs_callv (pc2 := 16) rfl rfl rfl rfl ⟨rfl, rfl⟩ (Nat.le_of_ble_eq_true rfl) (Nat.le_of_ble_eq_true rfl) (Nat.le_of_ble_eq_true rfl) (fs_rcv rfl (by assumption)) (m_refusedE hm (w := nI 0)) (fun v9 sh9 V9 n9 hp9 => ?_)
    obtain ⟨ea9, eb9, ec9, hv9⟩ := hp9
    cases ea9
    obtain rfl := eb9.symm
    obtain rfl := ec9.symm
    cases hv9
    rw [rf0]
    try simp (disch := omega) only [nI_lit, pk_mul, nI_add, pk_sub, pk_rem4, nI_clamp, up2_o, up2_s, up2_i, cpV_o, cpV_i, e34]
    refine fs_if_eq (pc2 := 19) rfl rfl rfl (fun h16 => ?_) (fun h16 => ?_)
    · refine fs_aload_n (pc2 := 22) rfl rfl rfl rfl ?_
      refine fs_getr (pc2 := 25) rfl rfl rfl (by assumption) rfl ?_
      refine fs_iload_n (pc2 := 26) rfl rfl rfl rfl ?_
      try simp (disch := omega) only [nI_lit, pk_mul, nI_add, pk_sub, pk_rem4, nI_clamp, up2_o, up2_s, up2_i, cpV_o, cpV_i, e34]
      refine fs_iald (pc2 := 27) rfl rfl rfl (by assumption) (vp_in_nI (by omega) (by decide)) ?_
      try simp (disch := omega) only [nI_lit, pk_mul, nI_add, pk_sub, pk_rem4, nI_clamp, up2_o, up2_s, up2_i, cpV_o, cpV_i, e34]
      refine fs_if_ne (pc2 := 30) rfl rfl rfl (fun h27 => ?_) (fun h27 => ?_)
      · refine fs_aload_n (pc2 := 33) rfl rfl rfl rfl ?_
        refine fs_iload_n (pc2 := 34) rfl rfl rfl rfl ?_
        try simp (disch := omega) only [nI_lit, pk_mul, nI_add, pk_sub, pk_rem4, nI_clamp, up2_o, up2_s, up2_i, cpV_o, cpV_i, e34]
        refine fs_callv (pc2 := 37) rfl rfl rfl rfl ⟨rfl, rfl⟩ (Nat.le_of_ble_eq_true rfl) (Nat.le_of_ble_eq_true rfl) (Nat.le_of_ble_eq_true rfl) (fs_rcv rfl (by assumption)) (m_shift hm hM1 hh hw) (fun v9 sh9 V9 n9 hp9 => ?_)
        obtain ⟨ea9, eb9, ec9, hM2, hy2, ko2⟩ := hp9
        cases ea9
        obtain rfl := eb9.symm
        obtain rfl := ec9.symm
        first | refine fs_pop_i (pc2 := 38) rfl rfl rfl ?_ | refine fs_pop_r (pc2 := 38) rfl rfl rfl ?_
        refine fs_aload_n (pc2 := 39) rfl rfl rfl rfl ?_
        try simp (disch := omega) only [nI_lit, pk_mul, nI_add, pk_sub, pk_rem4, nI_clamp, up2_o, up2_s, up2_i, cpV_o, cpV_i, e34]
        refine fs_callv (pc2 := 42) rfl rfl rfl rfl ⟨rfl, rfl⟩ (Nat.le_of_ble_eq_true rfl) (Nat.le_of_ble_eq_true rfl) (Nat.le_of_ble_eq_true rfl) (fs_rcv rfl (by assumption)) (m_sendBoth hm hM2 hS) (fun v9 sh9 V9 n9 hp9 => ?_)
        obtain ⟨ea9, eb9, ec9, hM4, kp4⟩ := hp9
        cases ea9
        obtain rfl := eb9.symm
        obtain rfl := ec9.symm
        refine fs_iconst (pc2 := 43) rfl rfl rfl ?_
        try simp (disch := omega) only [nI_lit, pk_mul, nI_add, pk_sub, pk_rem4, nI_clamp, up2_o, up2_s, up2_i, cpV_o, cpV_i, e34]
        refine fs_iret rfl rfl (Or.inr rfl) ?_
        exact hP _ _ _ _ ⟨rfl, rfl, rfl, hM4, by rw [(ko2.trans kp4.ko).1, up2_s], OU.zero.trans (ko2.trans kp4.ko).2⟩
      · have := c_eq (b := 0) h27 rfl rfl
        omega
    · exact absurd (by decide) h16
set_option maxRecDepth 100000 in
set_option maxHeartbeats 4000000 in
theorem m_connect_full (hm : isMo sh mb) (hM : Mo V mb T S HH) (hh : h < 2) {s m p c : Nat} (hok : isToldB (nI h) (nI s) (nI m) (nI p) (nI c) = true) (hs6 : s < 65536) (hm6 : m < 65536) (hp6 : p < 65536) (hc6 : c < 65536) (hcl : ho_closed (HH h) = none) : fl_M cy z0 ext (d + 6) m_X7_connect [.ref (z0 + mb), .int (nI h), .int (nI s), .int (nI m), .int (nI p), .int (nI c)] sh V n (fun v sh' V' n' => v = some (.int (-2)) ∧ sh' = sh ∧ n' = n ∧ Mo V' mb T S HH ∧ V' mb 0 = nI 0 ∧ OU mb V V') := by
  have m0 := hm.1
  have a6 : sh (mb + 6) = some (.inl (1, 8, none)) := hm.2 5 (1, 8) rfl
  have a7 : sh (mb + 7) = some (.inl (1, 8, none)) := hm.2 6 (1, 8) rfl
  have a8 : sh (mb + 8) = some (.inl (1, 8, none)) := hm.2 7 (1, 8) rfl
  have a9 : sh (mb + 9) = some (.inl (1, 8, none)) := hm.2 8 (1, 8) rfl
  have a14 : sh (mb + 14) = some (.inl (1, 8, none)) := hm.2 13 (1, 8) rfl
  have a22 : sh (mb + 22) = some (.inl (1, 8, none)) := hm.2 21 (1, 8) rfl
  have hHo := isHostM_nI hh
  have hM1 : Mo (up2 V mb 0 (nI 0)) mb T S (va_up HH h (HH h)) := (hM.at (h := h)).tmp FM.zero
  refine fs_body rfl rfl (fun Ret hP => ?_)
  refine fs_aload_n (pc2 := 1) rfl rfl rfl rfl ?_
  refine fs_iload_n (pc2 := 2) rfl rfl rfl rfl ?_
  refine fs_iload_n (pc2 := 3) rfl rfl rfl rfl ?_
  refine fs_iload_n (pc2 := 4) rfl rfl rfl rfl ?_
  refine fs_iload (pc2 := 6) rfl rfl rfl rfl ?_
  refine fs_iload (pc2 := 8) rfl rfl rfl rfl ?_
  try simp (disch := omega) only [nI_lit, pk_mul, nI_add, pk_sub, pk_rem4, nI_clamp, up2_o, up2_s, up2_i, cpV_o, cpV_i]
  refine fs_calls (pc2 := 11) rfl rfl rfl rfl rfl rfl ⟨rfl, rfl⟩ (Nat.le_of_ble_eq_true rfl) (Nat.le_of_ble_eq_true rfl) (Nat.le_of_ble_eq_true rfl) (m_isTold) (fun v9 sh9 V9 n9 hp9 => ?_)
  obtain ⟨ea9, eb9, ec9, hv9⟩ := hp9
  cases ea9
  obtain rfl := eb9.symm
  obtain rfl := ec9.symm
  cases hv9
  rw [hok]
  try simp (disch := omega) only [nI_lit, pk_mul, nI_add, pk_sub, pk_rem4, nI_clamp, up2_o, up2_s, up2_i, cpV_o, cpV_i]
  refine fs_if_eq (pc2 := 14) rfl rfl rfl (fun h11 => ?_) (fun h11 => ?_)
  · exact absurd h11 (by decide)
  · refine fs_iconst (pc2 := 15) rfl rfl rfl ?_
    refine fs_goto rfl rfl ?_
    try simp (disch := omega) only [nI_lit, pk_mul, nI_add, pk_sub, pk_rem4, nI_clamp, up2_o, up2_s, up2_i, cpV_o, cpV_i]
    refine fs_callv (pc2 := 22) rfl rfl rfl rfl ⟨rfl, rfl⟩ (Nat.le_of_ble_eq_true rfl) (Nat.le_of_ble_eq_true rfl) (Nat.le_of_ble_eq_true rfl) (fs_rcv rfl (by assumption)) (m_refusedE hm (w := nI 0)) (fun v9 sh9 V9 n9 hp9 => ?_)
    obtain ⟨ea9, eb9, ec9, hv9⟩ := hp9
    cases ea9
    obtain rfl := eb9.symm
    obtain rfl := ec9.symm
    cases hv9
    rw [rf0]
    try simp (disch := omega) only [nI_lit, pk_mul, nI_add, pk_sub, pk_rem4, nI_clamp, up2_o, up2_s, up2_i, cpV_o, cpV_i]
    refine fs_if_eq (pc2 := 25) rfl rfl rfl (fun h22 => ?_) (fun h22 => ?_)
    · refine fs_aload_n (pc2 := 28) rfl rfl rfl rfl ?_
      refine fs_iload_n (pc2 := 29) rfl rfl rfl rfl ?_
      try simp (disch := omega) only [nI_lit, pk_mul, nI_add, pk_sub, pk_rem4, nI_clamp, up2_o, up2_s, up2_i, cpV_o, cpV_i]
      refine fs_callv (pc2 := 32) rfl rfl rfl rfl ⟨rfl, rfl⟩ (Nat.le_of_ble_eq_true rfl) (Nat.le_of_ble_eq_true rfl) (Nat.le_of_ble_eq_true rfl) (fs_rcv rfl (by assumption)) (m_firstClosed hm hM1 hh) (fun v9 sh9 V9 n9 hp9 => ?_)
      obtain ⟨ea9, eb9, ec9, hv9⟩ := hp9
      cases ea9
      obtain rfl := eb9.symm
      obtain rfl := ec9.symm
      cases hv9
      rw [hcl]
      dsimp only
      refine fs_istore (pc2 := 34) rfl rfl rfl (Nat.le_of_ble_eq_true rfl) ?_
      refine fs_iload (pc2 := 36) rfl rfl rfl rfl ?_
      try simp (disch := omega) only [nI_lit, pk_mul, nI_add, pk_sub, pk_rem4, nI_clamp, up2_o, up2_s, up2_i, cpV_o, cpV_i]
      refine fs_if_ge (pc2 := 39) rfl rfl rfl (fun h36 => ?_) (fun h36 => ?_)
      · exact absurd h36 (by decide)
      · refine fs_bipush (pc2 := 41) rfl rfl rfl ?_
        try simp (disch := omega) only [nI_lit, pk_mul, nI_add, pk_sub, pk_rem4, nI_clamp, up2_o, up2_s, up2_i, cpV_o, cpV_i]
        refine fs_iret rfl rfl True.intro ?_
        rw [va_up_id] at hM1
        exact hP _ _ _ _ ⟨rfl, rfl, rfl, hM1, up2_s, OU.zero⟩
    · exact absurd (by decide) h22
set_option maxRecDepth 100000 in
set_option maxHeartbeats 4000000 in
theorem m_connect (hm : isMo sh mb) (hM : Mo V mb T S HH) (hh : h < 2) {s m p c : Nat} (hok : isToldB (nI h) (nI s) (nI m) (nI p) (nI c) = true) (hs6 : s < 65536) (hm6 : m < 65536) (hp6 : p < 65536) (hc6 : c < 65536) (hcl : ho_closed (HH h) = some k) (hT : ∀ i, i < 2 → T i < 2048) (hS : SI2 (va_up HH h (ho_ask (HH h) k s m p c))) : fl_M cy z0 ext (d + 6) m_X7_connect [.ref (z0 + mb), .int (nI h), .int (nI s), .int (nI m), .int (nI p), .int (nI c)] sh V n (fun v sh' V' n' => v = some (.int (nI (64 + k))) ∧ sh' = sh ∧ n' = n ∧ Mo V' mb (fun i => T i + 1) S (st_send (va_up HH h (ho_ask (HH h) k s m p c))) ∧ V' mb 0 = nI 0 ∧ OU mb V V') := by
  have m0 := hm.1
  have a6 : sh (mb + 6) = some (.inl (1, 8, none)) := hm.2 5 (1, 8) rfl
  have a7 : sh (mb + 7) = some (.inl (1, 8, none)) := hm.2 6 (1, 8) rfl
  have a8 : sh (mb + 8) = some (.inl (1, 8, none)) := hm.2 7 (1, 8) rfl
  have a9 : sh (mb + 9) = some (.inl (1, 8, none)) := hm.2 8 (1, 8) rfl
  have a14 : sh (mb + 14) = some (.inl (1, 8, none)) := hm.2 13 (1, 8) rfl
  have a22 : sh (mb + 22) = some (.inl (1, 8, none)) := hm.2 21 (1, 8) rfl
  have hHo := isHostM_nI hh
  have hM1 : Mo (up2 V mb 0 (nI 0)) mb T S (va_up HH h (HH h)) := (hM.at (h := h)).tmp FM.zero
  have hk : k < 4 := (first4_lt hcl).1
  have e4 : (4 * h + k) % 4 = k := by omega
  have li : ho_id (HH h) ≤ 255 ∧ 0 < ho_id (HH h) := by unfold ho_id; split <;> omega
  have hC := (hM1.host hh).2.2.2.2.2.2 k hk
  have hC2 : MC (up2 (up2 (up2 (up2 (up2 (up2 V mb 0 (nI 0)) (mb + 6) (4 * h + k) (nI 1)) (mb + 22) (4 * h + k) (nI 0)) (mb + 7) (4 * h + k) (nI m)) (mb + 8) (4 * h + k) (nI p)) (mb + 9) (4 * h + k) (nI c)) mb (4 * h + k) (va_up (va_up (va_up (va_up ((HH h).2.1 k).1 1 1) 3 m) 4 p) 5 c, ((HH h).2.1 k).2.1, ((HH h).2.1 k).2.2.1, [], ((HH h).2.1 k).2.2.2.2) := ((((hC.pI (1, 6) (v := 1) (by decide) (by decide)).pR0).pI (3, 7) (by decide) hm6).pI (4, 8) (by decide) hp6).pI (5, 9) (by decide) hc6
  have hM2 := hM1.pC (V' := (up2 (up2 (up2 (up2 (up2 (up2 V mb 0 (nI 0)) (mb + 6) (4 * h + k) (nI 1)) (mb + 22) (4 * h + k) (nI 0)) (mb + 7) (4 * h + k) (nI m)) (mb + 8) (4 * h + k) (nI p)) (mb + 9) (4 * h + k) (nI c))) hh hk ((((((FM.refl).up (j := 6) (by simp [own])).up (j := 22) (by simp [own])).up (j := 7) (by simp [own])).up (j := 8) (by simp [own])).up (j := 9) (by simp [own])) hC2
  have eC : va_up (va_up (va_up (va_up (va_up ((HH h).2.1 k).1 1 1) 3 m) 4 p) 5 c) 2 (ho_id (HH h)) = va_up (va_up (va_up (va_up (va_up ((HH h).2.1 k).1 3 m) 4 p) 5 c) 1 1) 2 (ho_id (HH h)) := by
    rw [va_up_swap (f := ((HH h).2.1 k).1) (i := 1) (j := 3) (by decide), va_up_swap (i := 1) (j := 4) (by decide), va_up_swap (i := 1) (j := 5) (by decide)]
  refine fs_body rfl rfl (fun Ret hP => ?_)
  refine fs_aload_n (pc2 := 1) rfl rfl rfl rfl ?_
  refine fs_iload_n (pc2 := 2) rfl rfl rfl rfl ?_
  refine fs_iload_n (pc2 := 3) rfl rfl rfl rfl ?_
  refine fs_iload_n (pc2 := 4) rfl rfl rfl rfl ?_
  refine fs_iload (pc2 := 6) rfl rfl rfl rfl ?_
  refine fs_iload (pc2 := 8) rfl rfl rfl rfl ?_
  try simp (disch := omega) only [nI_lit, pk_mul, nI_add, pk_sub, pk_rem4, nI_clamp, up2_o, up2_s, up2_i, cpV_o, cpV_i, e4]
  refine fs_calls (pc2 := 11) rfl rfl rfl rfl rfl rfl ⟨rfl, rfl⟩ (Nat.le_of_ble_eq_true rfl) (Nat.le_of_ble_eq_true rfl) (Nat.le_of_ble_eq_true rfl) (m_isTold) (fun v9 sh9 V9 n9 hp9 => ?_)
  obtain ⟨ea9, eb9, ec9, hv9⟩ := hp9
  cases ea9
  obtain rfl := eb9.symm
  obtain rfl := ec9.symm
  cases hv9
  rw [hok]
  try simp (disch := omega) only [nI_lit, pk_mul, nI_add, pk_sub, pk_rem4, nI_clamp, up2_o, up2_s, up2_i, cpV_o, cpV_i, e4]
  refine fs_if_eq (pc2 := 14) rfl rfl rfl (fun h11 => ?_) (fun h11 => ?_)
  · exact absurd h11 (by decide)
  · refine fs_iconst (pc2 := 15) rfl rfl rfl ?_
    refine fs_goto rfl rfl ?_
    try simp (disch := omega) only [nI_lit, pk_mul, nI_add, pk_sub, pk_rem4, nI_clamp, up2_o, up2_s, up2_i, cpV_o, cpV_i, e4]
    refine fs_callv (pc2 := 22) rfl rfl rfl rfl ⟨rfl, rfl⟩ (Nat.le_of_ble_eq_true rfl) (Nat.le_of_ble_eq_true rfl) (Nat.le_of_ble_eq_true rfl) (fs_rcv rfl (by assumption)) (m_refusedE hm (w := nI 0)) (fun v9 sh9 V9 n9 hp9 => ?_)
    obtain ⟨ea9, eb9, ec9, hv9⟩ := hp9
    cases ea9
    obtain rfl := eb9.symm
    obtain rfl := ec9.symm
    cases hv9
    rw [rf0]
    try simp (disch := omega) only [nI_lit, pk_mul, nI_add, pk_sub, pk_rem4, nI_clamp, up2_o, up2_s, up2_i, cpV_o, cpV_i, e4]
    refine fs_if_eq (pc2 := 25) rfl rfl rfl (fun h22 => ?_) (fun h22 => ?_)
    · refine fs_aload_n (pc2 := 28) rfl rfl rfl rfl ?_
      refine fs_iload_n (pc2 := 29) rfl rfl rfl rfl ?_
      try simp (disch := omega) only [nI_lit, pk_mul, nI_add, pk_sub, pk_rem4, nI_clamp, up2_o, up2_s, up2_i, cpV_o, cpV_i, e4]
      refine fs_callv (pc2 := 32) rfl rfl rfl rfl ⟨rfl, rfl⟩ (Nat.le_of_ble_eq_true rfl) (Nat.le_of_ble_eq_true rfl) (Nat.le_of_ble_eq_true rfl) (fs_rcv rfl (by assumption)) (m_firstClosed hm hM1 hh) (fun v9 sh9 V9 n9 hp9 => ?_)
      obtain ⟨ea9, eb9, ec9, hv9⟩ := hp9
      cases ea9
      obtain rfl := eb9.symm
      obtain rfl := ec9.symm
      cases hv9
      rw [hcl]
      dsimp only
      refine fs_istore (pc2 := 34) rfl rfl rfl (Nat.le_of_ble_eq_true rfl) ?_
      refine fs_iload (pc2 := 36) rfl rfl rfl rfl ?_
      try simp (disch := omega) only [nI_lit, pk_mul, nI_add, pk_sub, pk_rem4, nI_clamp, up2_o, up2_s, up2_i, cpV_o, cpV_i, e4]
      refine fs_if_ge (pc2 := 39) rfl rfl rfl (fun h36 => ?_) (fun h36 => ?_)
      · refine fs_aload_n (pc2 := 43) rfl rfl rfl rfl ?_
        refine fs_getr (pc2 := 46) rfl rfl rfl (by assumption) rfl ?_
        refine fs_iload (pc2 := 48) rfl rfl rfl rfl ?_
        refine fs_iconst (pc2 := 49) rfl rfl rfl ?_
        try simp (disch := omega) only [nI_lit, pk_mul, nI_add, pk_sub, pk_rem4, nI_clamp, up2_o, up2_s, up2_i, cpV_o, cpV_i, e4]
        refine fs_iast (pc2 := 50) rfl rfl rfl (by assumption) (vp_in_nI (by omega) (by decide)) ?_
        refine fs_aload_n (pc2 := 51) rfl rfl rfl rfl ?_
        refine fs_getr (pc2 := 54) rfl rfl rfl (by assumption) rfl ?_
        refine fs_iload (pc2 := 56) rfl rfl rfl rfl ?_
        refine fs_iconst (pc2 := 57) rfl rfl rfl ?_
        try simp (disch := omega) only [nI_lit, pk_mul, nI_add, pk_sub, pk_rem4, nI_clamp, up2_o, up2_s, up2_i, cpV_o, cpV_i, e4]
        refine fs_iast (pc2 := 58) rfl rfl rfl (by assumption) (vp_in_nI (by omega) (by decide)) ?_
        refine fs_aload_n (pc2 := 59) rfl rfl rfl rfl ?_
        refine fs_getr (pc2 := 62) rfl rfl rfl (by assumption) rfl ?_
        refine fs_iload (pc2 := 64) rfl rfl rfl rfl ?_
        refine fs_iload_n (pc2 := 65) rfl rfl rfl rfl ?_
        try simp (disch := omega) only [nI_lit, pk_mul, nI_add, pk_sub, pk_rem4, nI_clamp, up2_o, up2_s, up2_i, cpV_o, cpV_i, e4]
        refine fs_iast (pc2 := 66) rfl rfl rfl (by assumption) (vp_in_nI (by omega) (by decide)) ?_
        refine fs_aload_n (pc2 := 67) rfl rfl rfl rfl ?_
        refine fs_getr (pc2 := 70) rfl rfl rfl (by assumption) rfl ?_
        refine fs_iload (pc2 := 72) rfl rfl rfl rfl ?_
        refine fs_iload (pc2 := 74) rfl rfl rfl rfl ?_
        try simp (disch := omega) only [nI_lit, pk_mul, nI_add, pk_sub, pk_rem4, nI_clamp, up2_o, up2_s, up2_i, cpV_o, cpV_i, e4]
        refine fs_iast (pc2 := 75) rfl rfl rfl (by assumption) (vp_in_nI (by omega) (by decide)) ?_
        refine fs_aload_n (pc2 := 76) rfl rfl rfl rfl ?_
        refine fs_getr (pc2 := 79) rfl rfl rfl (by assumption) rfl ?_
        refine fs_iload (pc2 := 81) rfl rfl rfl rfl ?_
        refine fs_iload (pc2 := 83) rfl rfl rfl rfl ?_
        try simp (disch := omega) only [nI_lit, pk_mul, nI_add, pk_sub, pk_rem4, nI_clamp, up2_o, up2_s, up2_i, cpV_o, cpV_i, e4]
        refine fs_iast (pc2 := 84) rfl rfl rfl (by assumption) (vp_in_nI (by omega) (by decide)) ?_
        refine fs_aload_n (pc2 := 85) rfl rfl rfl rfl ?_
        refine fs_getr (pc2 := 88) rfl rfl rfl (by assumption) rfl ?_
        refine fs_iload (pc2 := 90) rfl rfl rfl rfl ?_
        refine fs_aload_n (pc2 := 91) rfl rfl rfl rfl ?_
        refine fs_iload_n (pc2 := 92) rfl rfl rfl rfl ?_
        try simp (disch := omega) only [nI_lit, pk_mul, nI_add, pk_sub, pk_rem4, nI_clamp, up2_o, up2_s, up2_i, cpV_o, cpV_i, e4]
        refine fs_callv (pc2 := 95) rfl rfl rfl rfl ⟨rfl, rfl⟩ (Nat.le_of_ble_eq_true rfl) (Nat.le_of_ble_eq_true rfl) (Nat.le_of_ble_eq_true rfl) (fs_rcv rfl (by assumption)) (m_takeId hm hM2 hh) (fun v9 sh9 V9 n9 hp9 => ?_)
        obtain ⟨ea9, eb9, ec9, hM3, kp3⟩ := hp9
        cases ea9
        obtain rfl := eb9.symm
        obtain rfl := ec9.symm
        have hC3 := (hM3.host hh).2.2.2.2.2.2 k hk
        simp only [hoC, hoN, va_up_self] at hC3
        have hM4 := hM3.pC hh hk (FM.refl.up (j := 14) (i := 4 * h + k) (v := nI (ho_id (HH h))) (by simp [own])) (hC3.pI (2, 14) (v := ho_id (HH h)) (by decide) (by omega))
        have kp4 := kp3.trans (KP.refl.up (j := 14) (i := 4 * h + k) (v := nI (ho_id (HH h))) (by decide))
        try simp (disch := omega) only [nI_lit, pk_mul, nI_add, pk_sub, pk_rem4, nI_clamp, up2_o, up2_s, up2_i, cpV_o, cpV_i, e4]
        refine fs_iast (pc2 := 96) rfl rfl rfl (by assumption) (vp_in_nI (by omega) (by decide)) ?_
        refine fs_aload_n (pc2 := 97) rfl rfl rfl rfl ?_
        refine fs_bipush (pc2 := 99) rfl rfl rfl ?_
        refine fs_aload_n (pc2 := 100) rfl rfl rfl rfl ?_
        refine fs_getr (pc2 := 103) rfl rfl rfl (by assumption) rfl ?_
        refine fs_iload (pc2 := 105) rfl rfl rfl rfl ?_
        try simp (disch := omega) only [nI_lit, pk_mul, nI_add, pk_sub, pk_rem4, nI_clamp, up2_o, up2_s, up2_i, cpV_o, cpV_i, e4]
        refine fs_iald (pc2 := 106) rfl rfl rfl (by assumption) (vp_in_nI (by omega) (by decide)) ?_
        refine fs_bipush (pc2 := 108) rfl rfl rfl ?_
        try simp (disch := omega) only [nI_lit, pk_mul, nI_add, pk_sub, pk_rem4, nI_clamp, up2_o, up2_s, up2_i, cpV_o, cpV_i, e4]
        refine fs_callv (pc2 := 111) rfl rfl rfl rfl ⟨rfl, rfl⟩ (Nat.le_of_ble_eq_true rfl) (Nat.le_of_ble_eq_true rfl) (Nat.le_of_ble_eq_true rfl) (fs_rcv rfl (by assumption)) (m_begin hm hM4 (co := 20) (sid := ho_id (HH h)) (l := 10) (by decide) (by omega) (by decide)) (fun v9 sh9 V9 n9 hp9 => ?_)
        obtain ⟨ea9, eb9, ec9, hM5, hX5, kh5, kf5, ko5⟩ := hp9
        cases ea9
        obtain rfl := eb9.symm
        obtain rfl := ec9.symm
        have kp5 := kp4.trans ⟨kf5, kh5, ko5⟩
        refine fs_aload_n (pc2 := 112) rfl rfl rfl rfl ?_
        refine fs_iload_n (pc2 := 113) rfl rfl rfl rfl ?_
        try simp (disch := omega) only [nI_lit, pk_mul, nI_add, pk_sub, pk_rem4, nI_clamp, up2_o, up2_s, up2_i, cpV_o, cpV_i, e4]
        refine fs_callv (pc2 := 116) rfl rfl rfl rfl ⟨rfl, rfl⟩ (Nat.le_of_ble_eq_true rfl) (Nat.le_of_ble_eq_true rfl) (Nat.le_of_ble_eq_true rfl) (fs_rcv rfl (by assumption)) (m_two hm hM5 hX5 (by simp) (k := s) (by omega)) (fun v9 sh9 V9 n9 hp9 => ?_)
        obtain ⟨ea9, eb9, ec9, hM6, hX6, kh6, kf6, ko6⟩ := hp9
        cases ea9
        obtain rfl := eb9.symm
        obtain rfl := ec9.symm
        have kp6 := kp5.trans ⟨kf6, kh6, ko6⟩
        refine fs_aload_n (pc2 := 117) rfl rfl rfl rfl ?_
        refine fs_bipush (pc2 := 119) rfl rfl rfl ?_
        refine fs_iload (pc2 := 121) rfl rfl rfl rfl ?_
        refine fs_iconst (pc2 := 122) rfl rfl rfl ?_
        refine fs_irem (pc2 := 123) rfl rfl rfl (by decide) ?_
        refine fs_iadd (pc2 := 124) rfl rfl rfl ?_
        try simp (disch := omega) only [nI_lit, pk_mul, nI_add, pk_sub, pk_rem4, nI_clamp, up2_o, up2_s, up2_i, cpV_o, cpV_i, e4]
        refine fs_callv (pc2 := 127) rfl rfl rfl rfl ⟨rfl, rfl⟩ (Nat.le_of_ble_eq_true rfl) (Nat.le_of_ble_eq_true rfl) (Nat.le_of_ble_eq_true rfl) (fs_rcv rfl (by assumption)) (m_two hm hM6 hX6 (by simp) (k := 64 + k) (by omega)) (fun v9 sh9 V9 n9 hp9 => ?_)
        obtain ⟨ea9, eb9, ec9, hM7, hX7, kh7, kf7, ko7⟩ := hp9
        cases ea9
        obtain rfl := eb9.symm
        obtain rfl := ec9.symm
        have kp7 := kp6.trans ⟨kf7, kh7, ko7⟩
        refine fs_aload_n (pc2 := 128) rfl rfl rfl rfl ?_
        refine fs_iload_n (pc2 := 129) rfl rfl rfl rfl ?_
        try simp (disch := omega) only [nI_lit, pk_mul, nI_add, pk_sub, pk_rem4, nI_clamp, up2_o, up2_s, up2_i, cpV_o, cpV_i, e4]
        refine fs_callv (pc2 := 132) rfl rfl rfl rfl ⟨rfl, rfl⟩ (Nat.le_of_ble_eq_true rfl) (Nat.le_of_ble_eq_true rfl) (Nat.le_of_ble_eq_true rfl) (fs_rcv rfl (by assumption)) (m_two hm hM7 hX7 (by simp) (k := m) (by omega)) (fun v9 sh9 V9 n9 hp9 => ?_)
        obtain ⟨ea9, eb9, ec9, hM8, hX8, kh8, kf8, ko8⟩ := hp9
        cases ea9
        obtain rfl := eb9.symm
        obtain rfl := ec9.symm
        have kp8 := kp7.trans ⟨kf8, kh8, ko8⟩
        refine fs_aload_n (pc2 := 133) rfl rfl rfl rfl ?_
        refine fs_iload (pc2 := 135) rfl rfl rfl rfl ?_
        try simp (disch := omega) only [nI_lit, pk_mul, nI_add, pk_sub, pk_rem4, nI_clamp, up2_o, up2_s, up2_i, cpV_o, cpV_i, e4]
        refine fs_callv (pc2 := 138) rfl rfl rfl rfl ⟨rfl, rfl⟩ (Nat.le_of_ble_eq_true rfl) (Nat.le_of_ble_eq_true rfl) (Nat.le_of_ble_eq_true rfl) (fs_rcv rfl (by assumption)) (m_two hm hM8 hX8 (by simp) (k := p) (by omega)) (fun v9 sh9 V9 n9 hp9 => ?_)
        obtain ⟨ea9, eb9, ec9, hM9, hX9, kh9, kf9, ko9⟩ := hp9
        cases ea9
        obtain rfl := eb9.symm
        obtain rfl := ec9.symm
        have kp9 := kp8.trans ⟨kf9, kh9, ko9⟩
        refine fs_aload_n (pc2 := 139) rfl rfl rfl rfl ?_
        refine fs_iload (pc2 := 141) rfl rfl rfl rfl ?_
        try simp (disch := omega) only [nI_lit, pk_mul, nI_add, pk_sub, pk_rem4, nI_clamp, up2_o, up2_s, up2_i, cpV_o, cpV_i, e4]
        refine fs_callv (pc2 := 144) rfl rfl rfl rfl ⟨rfl, rfl⟩ (Nat.le_of_ble_eq_true rfl) (Nat.le_of_ble_eq_true rfl) (Nat.le_of_ble_eq_true rfl) (fs_rcv rfl (by assumption)) (m_two hm hM9 hX9 (by simp) (k := c) (by omega)) (fun v9 sh9 V9 n9 hp9 => ?_)
        obtain ⟨ea9, eb9, ec9, hM10, hX10, kh10, kf10, ko10⟩ := hp9
        cases ea9
        obtain rfl := eb9.symm
        obtain rfl := ec9.symm
        have kp10 := kp9.trans ⟨kf10, kh10, ko10⟩
        refine fs_aload_n (pc2 := 145) rfl rfl rfl rfl ?_
        refine fs_iload_n (pc2 := 146) rfl rfl rfl rfl ?_
        try simp (disch := omega) only [nI_lit, pk_mul, nI_add, pk_sub, pk_rem4, nI_clamp, up2_o, up2_s, up2_i, cpV_o, cpV_i, e4]
        refine fs_callv (pc2 := 149) rfl rfl rfl rfl ⟨rfl, rfl⟩ (Nat.le_of_ble_eq_true rfl) (Nat.le_of_ble_eq_true rfl) (Nat.le_of_ble_eq_true rfl) (fs_rcv rfl (by assumption)) (m_wait hm hM10 hh hX10 (by simp) hT) (fun v9 sh9 V9 n9 hp9 => ?_)
        obtain ⟨ea9, eb9, ec9, hM11, kp11⟩ := hp9
        cases ea9
        obtain rfl := eb9.symm
        obtain rfl := ec9.symm
        have kp11b := kp10.trans kp11
        have hM12 : Mo V9 mb (fun i => T i + 1) S (va_up HH h (ho_ask (HH h) k s m p c)) := by
          unfold ho_ask ch_ask
          rw [← eC]
          simp only [hoC, hoN, hoQ, va_up2] at hM11 ⊢
          exact hM11
        refine fs_aload_n (pc2 := 150) rfl rfl rfl rfl ?_
        try simp (disch := omega) only [nI_lit, pk_mul, nI_add, pk_sub, pk_rem4, nI_clamp, up2_o, up2_s, up2_i, cpV_o, cpV_i, e4]
        refine fs_callv (pc2 := 153) rfl rfl rfl rfl ⟨rfl, rfl⟩ (Nat.le_of_ble_eq_true rfl) (Nat.le_of_ble_eq_true rfl) (Nat.le_of_ble_eq_true rfl) (fs_rcv rfl (by assumption)) (m_sendBoth hm hM12 hS) (fun v9 sh9 V9 n9 hp9 => ?_)
        obtain ⟨ea9, eb9, ec9, hM13, kp13⟩ := hp9
        cases ea9
        obtain rfl := eb9.symm
        obtain rfl := ec9.symm
        refine fs_bipush (pc2 := 155) rfl rfl rfl ?_
        refine fs_iload (pc2 := 157) rfl rfl rfl rfl ?_
        refine fs_iconst (pc2 := 158) rfl rfl rfl ?_
        refine fs_irem (pc2 := 159) rfl rfl rfl (by decide) ?_
        refine fs_iadd (pc2 := 160) rfl rfl rfl ?_
        try simp (disch := omega) only [nI_lit, pk_mul, nI_add, pk_sub, pk_rem4, nI_clamp, up2_o, up2_s, up2_i, cpV_o, cpV_i, e4]
        refine fs_iret rfl rfl True.intro ?_
        refine hP _ _ _ _ ⟨rfl, rfl, rfl, hM13, by rw [(kp11b.trans kp13).1]; simp (disch := omega) only [up2_o, up2_s], ((((((OU.zero.up (by decide)).up (by decide)).up (by decide)).up (by decide)).up (by decide)).trans (kp11b.trans kp13).2.2)⟩
      · exact absurd h36 (nI_nlt (b := 0) (by omega) (by omega))
    · exact absurd (by decide) h22
set_option maxRecDepth 100000 in
set_option maxHeartbeats 4000000 in
theorem m_channel (hm : isMo sh mb) (hM : Mo V mb T S HH) (hh : h < 2) (hk : k < 4) {w : Nat} (hw : w < 8) : fl_M cy z0 ext (d + 5) m_X7_channel [.ref (z0 + mb), .int (nI h), .int (nI (64 + k)), .int (nI w)] sh V n (fun v sh' V' n' => v = some (.int (nI (chVal ((HH h).2.1 k) w))) ∧ sh' = sh ∧ n' = n ∧ Mo V' mb T S HH ∧ V' mb 0 = nI 0 ∧ OU mb V V') := by
  have m0 := hm.1
  have a6 : sh (mb + 6) = some (.inl (1, 8, none)) := hm.2 5 (1, 8) rfl
  have a9 : sh (mb + 9) = some (.inl (1, 8, none)) := hm.2 8 (1, 8) rfl
  have a10 : sh (mb + 10) = some (.inl (1, 8, none)) := hm.2 9 (1, 8) rfl
  have a11 : sh (mb + 11) = some (.inl (1, 8, none)) := hm.2 10 (1, 8) rfl
  have a12 : sh (mb + 12) = some (.inl (1, 8, none)) := hm.2 11 (1, 8) rfl
  have a13 : sh (mb + 13) = some (.inl (1, 8, none)) := hm.2 12 (1, 8) rfl
  have a15 : sh (mb + 15) = some (.inl (1, 8, none)) := hm.2 14 (1, 8) rfl
  have a22 : sh (mb + 22) = some (.inl (1, 8, none)) := hm.2 21 (1, 8) rfl
  have hHo := isHostM_nI hh
  have hM1 : Mo (up2 V mb 0 (nI 0)) mb T S (va_up HH h (HH h)) := (hM.at (h := h)).tmp FM.zero
  have ek : 4 * h + (64 + k) - 64 = 4 * h + k := by omega
  have hC := (hM.2 h hh).2.2.2.2.2.2 k hk
  have e6 := hC.1 (1, 6) (by decide)
  have e10 := hC.1 (6, 10) (by decide)
  have e13 := hC.1 (9, 13) (by decide)
  have e9 := hC.1 (5, 9) (by decide)
  have e11 := hC.1 (7, 11) (by decide)
  have e12 := hC.1 (8, 12) (by decide)
  dsimp only at e6 e10 e13 e9 e11 e12
  have e15 := hC.2.2.2.1
  have e22 := hC.2.2.2.2.2.2.2.2.2.1
  have hIn : isInB (nI w) (nI 0) (nI 7) = true := by rw [isInB_nI (by omega) (by decide) (by decide)]; exact decide_eq_true (by omega)
  rw [va_up_id] at hM1
  refine fs_body rfl rfl (fun Ret hP => ?_)
  refine fs_aload_n (pc2 := 1) rfl rfl rfl rfl ?_
  refine fs_iload_n (pc2 := 2) rfl rfl rfl rfl ?_
  refine fs_iload_n (pc2 := 3) rfl rfl rfl rfl ?_
  try simp (disch := omega) only [nI_lit, pk_mul, nI_add, pk_sub, pk_rem4, nI_clamp, up2_o, up2_s, up2_i, cpV_o, cpV_i, ek, e6, e10, e13, e9, e11, e12, e15, e22]
  refine fs_calls (pc2 := 6) rfl rfl rfl rfl rfl rfl ⟨rfl, rfl⟩ (Nat.le_of_ble_eq_true rfl) (Nat.le_of_ble_eq_true rfl) (Nat.le_of_ble_eq_true rfl) (m_isChannel (u := nI h) (w := nI (64 + k))) (fun v9 sh9 V9 n9 hp9 => ?_)
  obtain ⟨ea9, eb9, ec9, hv9⟩ := hp9
  cases ea9
  obtain rfl := eb9.symm
  obtain rfl := ec9.symm
  cases hv9
  rw [isChM_nI hh hk]
  try simp (disch := omega) only [nI_lit, pk_mul, nI_add, pk_sub, pk_rem4, nI_clamp, up2_o, up2_s, up2_i, cpV_o, cpV_i, ek, e6, e10, e13, e9, e11, e12, e15, e22]
  refine fs_if_eq (pc2 := 9) rfl rfl rfl (fun h6 => ?_) (fun h6 => ?_)
  · exact absurd h6 (by decide)
  · refine fs_iload_n (pc2 := 10) rfl rfl rfl rfl ?_
    refine fs_iconst (pc2 := 11) rfl rfl rfl ?_
    refine fs_bipush (pc2 := 13) rfl rfl rfl ?_
    try simp (disch := omega) only [nI_lit, pk_mul, nI_add, pk_sub, pk_rem4, nI_clamp, up2_o, up2_s, up2_i, cpV_o, cpV_i, ek, e6, e10, e13, e9, e11, e12, e15, e22]
    refine fs_calls (pc2 := 16) rfl rfl rfl rfl rfl rfl ⟨rfl, rfl⟩ (Nat.le_of_ble_eq_true rfl) (Nat.le_of_ble_eq_true rfl) (Nat.le_of_ble_eq_true rfl) (m_isIn (u := nI w) (a := nI 0) (b := nI 7)) (fun v9 sh9 V9 n9 hp9 => ?_)
    obtain ⟨ea9, eb9, ec9, hv9⟩ := hp9
    cases ea9
    obtain rfl := eb9.symm
    obtain rfl := ec9.symm
    cases hv9
    rw [hIn]
    try simp (disch := omega) only [nI_lit, pk_mul, nI_add, pk_sub, pk_rem4, nI_clamp, up2_o, up2_s, up2_i, cpV_o, cpV_i, ek, e6, e10, e13, e9, e11, e12, e15, e22]
    refine fs_if_eq (pc2 := 19) rfl rfl rfl (fun h16 => ?_) (fun h16 => ?_)
    · exact absurd h16 (by decide)
    · refine fs_iconst (pc2 := 20) rfl rfl rfl ?_
      refine fs_goto rfl rfl ?_
      try simp (disch := omega) only [nI_lit, pk_mul, nI_add, pk_sub, pk_rem4, nI_clamp, up2_o, up2_s, up2_i, cpV_o, cpV_i, ek, e6, e10, e13, e9, e11, e12, e15, e22]
      refine fs_callv (pc2 := 27) rfl rfl rfl rfl ⟨rfl, rfl⟩ (Nat.le_of_ble_eq_true rfl) (Nat.le_of_ble_eq_true rfl) (Nat.le_of_ble_eq_true rfl) (fs_rcv rfl (by assumption)) (m_refusedE hm (w := nI 0)) (fun v9 sh9 V9 n9 hp9 => ?_)
      obtain ⟨ea9, eb9, ec9, hv9⟩ := hp9
      cases ea9
      obtain rfl := eb9.symm
      obtain rfl := ec9.symm
      cases hv9
      rw [rf0]
      try simp (disch := omega) only [nI_lit, pk_mul, nI_add, pk_sub, pk_rem4, nI_clamp, up2_o, up2_s, up2_i, cpV_o, cpV_i, ek, e6, e10, e13, e9, e11, e12, e15, e22]
      refine fs_if_eq (pc2 := 30) rfl rfl rfl (fun h27 => ?_) (fun h27 => ?_)
      · refine fs_iconst (pc2 := 33) rfl rfl rfl ?_
        refine fs_iload_n (pc2 := 34) rfl rfl rfl rfl ?_
        refine fs_imul (pc2 := 35) rfl rfl rfl ?_
        refine fs_iload_n (pc2 := 36) rfl rfl rfl rfl ?_
        refine fs_iadd (pc2 := 37) rfl rfl rfl ?_
        refine fs_bipush (pc2 := 39) rfl rfl rfl ?_
        refine fs_isub (pc2 := 40) rfl rfl rfl ?_
        refine fs_istore (pc2 := 42) rfl rfl rfl (Nat.le_of_ble_eq_true rfl) ?_
        refine fs_iload_n (pc2 := 43) rfl rfl rfl rfl ?_
        try simp (disch := omega) only [nI_lit, pk_mul, nI_add, pk_sub, pk_rem4, nI_clamp, up2_o, up2_s, up2_i, cpV_o, cpV_i, ek, e6, e10, e13, e9, e11, e12, e15, e22]
        rcases (by omega : w = 0 ∨ w = 1 ∨ w = 2 ∨ w = 3 ∨ w = 4 ∨ w = 5 ∨ w = 6 ∨ w = 7) with rfl | rfl | rfl | rfl | rfl | rfl | rfl | rfl
        · try simp (disch := omega) only [nI_lit, pk_mul, nI_add, pk_sub, pk_rem4, nI_clamp, up2_o, up2_s, up2_i, cpV_o, cpV_i, ek, e6, e10, e13, e9, e11, e12, e15, e22]
          refine fs_tsw (off := 41) (pc2 := 84) rfl rfl (by decide) (by decide) rfl rfl ?_
          refine fs_aload_n (pc2 := 85) rfl rfl rfl rfl ?_
          refine fs_getr (pc2 := 88) rfl rfl rfl (by assumption) rfl ?_
          refine fs_iload (pc2 := 90) rfl rfl rfl rfl ?_
          try simp (disch := omega) only [nI_lit, pk_mul, nI_add, pk_sub, pk_rem4, nI_clamp, up2_o, up2_s, up2_i, cpV_o, cpV_i, ek, e6, e10, e13, e9, e11, e12, e15, e22]
          try simp (disch := omega) only [nI_lit, pk_mul, nI_add, pk_sub, pk_rem4, nI_clamp, up2_o, up2_s, up2_i, cpV_o, cpV_i, ek, e6, e10, e13, e9, e11, e12, e15, e22]
          refine fs_iald (pc2 := 91) rfl rfl rfl (by assumption) (vp_in_nI (by omega) (by decide)) ?_
          try simp (disch := omega) only [nI_lit, pk_mul, nI_add, pk_sub, pk_rem4, nI_clamp, up2_o, up2_s, up2_i, cpV_o, cpV_i, ek, e6, e10, e13, e9, e11, e12, e15, e22]
          try simp (disch := omega) only [nI_lit, pk_mul, nI_add, pk_sub, pk_rem4, nI_clamp, up2_o, up2_s, up2_i, cpV_o, cpV_i, ek, e6, e10, e13, e9, e11, e12, e15, e22]
          refine fs_iret rfl rfl True.intro ?_
          exact hP _ _ _ _ ⟨rfl, rfl, rfl, hM1, up2_s, OU.zero⟩
        · try simp (disch := omega) only [nI_lit, pk_mul, nI_add, pk_sub, pk_rem4, nI_clamp, up2_o, up2_s, up2_i, cpV_o, cpV_i, ek, e6, e10, e13, e9, e11, e12, e15, e22]
          refine fs_tsw (off := 49) (pc2 := 92) rfl rfl (by decide) (by decide) rfl rfl ?_
          refine fs_aload_n (pc2 := 93) rfl rfl rfl rfl ?_
          refine fs_getr (pc2 := 96) rfl rfl rfl (by assumption) rfl ?_
          refine fs_iload (pc2 := 98) rfl rfl rfl rfl ?_
          try simp (disch := omega) only [nI_lit, pk_mul, nI_add, pk_sub, pk_rem4, nI_clamp, up2_o, up2_s, up2_i, cpV_o, cpV_i, ek, e6, e10, e13, e9, e11, e12, e15, e22]
          try simp (disch := omega) only [nI_lit, pk_mul, nI_add, pk_sub, pk_rem4, nI_clamp, up2_o, up2_s, up2_i, cpV_o, cpV_i, ek, e6, e10, e13, e9, e11, e12, e15, e22]
          refine fs_iald (pc2 := 99) rfl rfl rfl (by assumption) (vp_in_nI (by omega) (by decide)) ?_
          try simp (disch := omega) only [nI_lit, pk_mul, nI_add, pk_sub, pk_rem4, nI_clamp, up2_o, up2_s, up2_i, cpV_o, cpV_i, ek, e6, e10, e13, e9, e11, e12, e15, e22]
          try simp (disch := omega) only [nI_lit, pk_mul, nI_add, pk_sub, pk_rem4, nI_clamp, up2_o, up2_s, up2_i, cpV_o, cpV_i, ek, e6, e10, e13, e9, e11, e12, e15, e22]
          refine fs_iret rfl rfl True.intro ?_
          exact hP _ _ _ _ ⟨rfl, rfl, rfl, hM1, up2_s, OU.zero⟩
        · try simp (disch := omega) only [nI_lit, pk_mul, nI_add, pk_sub, pk_rem4, nI_clamp, up2_o, up2_s, up2_i, cpV_o, cpV_i, ek, e6, e10, e13, e9, e11, e12, e15, e22]
          refine fs_tsw (off := 57) (pc2 := 100) rfl rfl (by decide) (by decide) rfl rfl ?_
          refine fs_aload_n (pc2 := 101) rfl rfl rfl rfl ?_
          refine fs_getr (pc2 := 104) rfl rfl rfl (by assumption) rfl ?_
          refine fs_iload (pc2 := 106) rfl rfl rfl rfl ?_
          try simp (disch := omega) only [nI_lit, pk_mul, nI_add, pk_sub, pk_rem4, nI_clamp, up2_o, up2_s, up2_i, cpV_o, cpV_i, ek, e6, e10, e13, e9, e11, e12, e15, e22]
          try simp (disch := omega) only [nI_lit, pk_mul, nI_add, pk_sub, pk_rem4, nI_clamp, up2_o, up2_s, up2_i, cpV_o, cpV_i, ek, e6, e10, e13, e9, e11, e12, e15, e22]
          refine fs_iald (pc2 := 107) rfl rfl rfl (by assumption) (vp_in_nI (by omega) (by decide)) ?_
          try simp (disch := omega) only [nI_lit, pk_mul, nI_add, pk_sub, pk_rem4, nI_clamp, up2_o, up2_s, up2_i, cpV_o, cpV_i, ek, e6, e10, e13, e9, e11, e12, e15, e22]
          try simp (disch := omega) only [nI_lit, pk_mul, nI_add, pk_sub, pk_rem4, nI_clamp, up2_o, up2_s, up2_i, cpV_o, cpV_i, ek, e6, e10, e13, e9, e11, e12, e15, e22]
          refine fs_iret rfl rfl True.intro ?_
          exact hP _ _ _ _ ⟨rfl, rfl, rfl, hM1, up2_s, OU.zero⟩
        · try simp (disch := omega) only [nI_lit, pk_mul, nI_add, pk_sub, pk_rem4, nI_clamp, up2_o, up2_s, up2_i, cpV_o, cpV_i, ek, e6, e10, e13, e9, e11, e12, e15, e22]
          refine fs_tsw (off := 65) (pc2 := 108) rfl rfl (by decide) (by decide) rfl rfl ?_
          refine fs_aload_n (pc2 := 109) rfl rfl rfl rfl ?_
          refine fs_getr (pc2 := 112) rfl rfl rfl (by assumption) rfl ?_
          refine fs_iload (pc2 := 114) rfl rfl rfl rfl ?_
          try simp (disch := omega) only [nI_lit, pk_mul, nI_add, pk_sub, pk_rem4, nI_clamp, up2_o, up2_s, up2_i, cpV_o, cpV_i, ek, e6, e10, e13, e9, e11, e12, e15, e22]
          try simp (disch := omega) only [nI_lit, pk_mul, nI_add, pk_sub, pk_rem4, nI_clamp, up2_o, up2_s, up2_i, cpV_o, cpV_i, ek, e6, e10, e13, e9, e11, e12, e15, e22]
          refine fs_iald (pc2 := 115) rfl rfl rfl (by assumption) (vp_in_nI (by omega) (by decide)) ?_
          try simp (disch := omega) only [nI_lit, pk_mul, nI_add, pk_sub, pk_rem4, nI_clamp, up2_o, up2_s, up2_i, cpV_o, cpV_i, ek, e6, e10, e13, e9, e11, e12, e15, e22]
          try simp (disch := omega) only [nI_lit, pk_mul, nI_add, pk_sub, pk_rem4, nI_clamp, up2_o, up2_s, up2_i, cpV_o, cpV_i, ek, e6, e10, e13, e9, e11, e12, e15, e22]
          refine fs_iret rfl rfl True.intro ?_
          exact hP _ _ _ _ ⟨rfl, rfl, rfl, hM1, up2_s, OU.zero⟩
        · try simp (disch := omega) only [nI_lit, pk_mul, nI_add, pk_sub, pk_rem4, nI_clamp, up2_o, up2_s, up2_i, cpV_o, cpV_i, ek, e6, e10, e13, e9, e11, e12, e15, e22]
          refine fs_tsw (off := 73) (pc2 := 116) rfl rfl (by decide) (by decide) rfl rfl ?_
          refine fs_aload_n (pc2 := 117) rfl rfl rfl rfl ?_
          refine fs_getr (pc2 := 120) rfl rfl rfl (by assumption) rfl ?_
          refine fs_iload (pc2 := 122) rfl rfl rfl rfl ?_
          try simp (disch := omega) only [nI_lit, pk_mul, nI_add, pk_sub, pk_rem4, nI_clamp, up2_o, up2_s, up2_i, cpV_o, cpV_i, ek, e6, e10, e13, e9, e11, e12, e15, e22]
          try simp (disch := omega) only [nI_lit, pk_mul, nI_add, pk_sub, pk_rem4, nI_clamp, up2_o, up2_s, up2_i, cpV_o, cpV_i, ek, e6, e10, e13, e9, e11, e12, e15, e22]
          refine fs_iald (pc2 := 123) rfl rfl rfl (by assumption) (vp_in_nI (by omega) (by decide)) ?_
          try simp (disch := omega) only [nI_lit, pk_mul, nI_add, pk_sub, pk_rem4, nI_clamp, up2_o, up2_s, up2_i, cpV_o, cpV_i, ek, e6, e10, e13, e9, e11, e12, e15, e22]
          try simp (disch := omega) only [nI_lit, pk_mul, nI_add, pk_sub, pk_rem4, nI_clamp, up2_o, up2_s, up2_i, cpV_o, cpV_i, ek, e6, e10, e13, e9, e11, e12, e15, e22]
          refine fs_iret rfl rfl True.intro ?_
          exact hP _ _ _ _ ⟨rfl, rfl, rfl, hM1, up2_s, OU.zero⟩
        · try simp (disch := omega) only [nI_lit, pk_mul, nI_add, pk_sub, pk_rem4, nI_clamp, up2_o, up2_s, up2_i, cpV_o, cpV_i, ek, e6, e10, e13, e9, e11, e12, e15, e22]
          refine fs_tsw (off := 81) (pc2 := 124) rfl rfl (by decide) (by decide) rfl rfl ?_
          refine fs_aload_n (pc2 := 125) rfl rfl rfl rfl ?_
          refine fs_getr (pc2 := 128) rfl rfl rfl (by assumption) rfl ?_
          refine fs_iload (pc2 := 130) rfl rfl rfl rfl ?_
          try simp (disch := omega) only [nI_lit, pk_mul, nI_add, pk_sub, pk_rem4, nI_clamp, up2_o, up2_s, up2_i, cpV_o, cpV_i, ek, e6, e10, e13, e9, e11, e12, e15, e22]
          try simp (disch := omega) only [nI_lit, pk_mul, nI_add, pk_sub, pk_rem4, nI_clamp, up2_o, up2_s, up2_i, cpV_o, cpV_i, ek, e6, e10, e13, e9, e11, e12, e15, e22]
          refine fs_iald (pc2 := 131) rfl rfl rfl (by assumption) (vp_in_nI (by omega) (by decide)) ?_
          try simp (disch := omega) only [nI_lit, pk_mul, nI_add, pk_sub, pk_rem4, nI_clamp, up2_o, up2_s, up2_i, cpV_o, cpV_i, ek, e6, e10, e13, e9, e11, e12, e15, e22]
          try simp (disch := omega) only [nI_lit, pk_mul, nI_add, pk_sub, pk_rem4, nI_clamp, up2_o, up2_s, up2_i, cpV_o, cpV_i, ek, e6, e10, e13, e9, e11, e12, e15, e22]
          refine fs_iret rfl rfl True.intro ?_
          exact hP _ _ _ _ ⟨rfl, rfl, rfl, hM1, up2_s, OU.zero⟩
        · try simp (disch := omega) only [nI_lit, pk_mul, nI_add, pk_sub, pk_rem4, nI_clamp, up2_o, up2_s, up2_i, cpV_o, cpV_i, ek, e6, e10, e13, e9, e11, e12, e15, e22]
          refine fs_tsw (off := 89) (pc2 := 132) rfl rfl (by decide) (by decide) rfl rfl ?_
          refine fs_aload_n (pc2 := 133) rfl rfl rfl rfl ?_
          refine fs_getr (pc2 := 136) rfl rfl rfl (by assumption) rfl ?_
          refine fs_iload (pc2 := 138) rfl rfl rfl rfl ?_
          try simp (disch := omega) only [nI_lit, pk_mul, nI_add, pk_sub, pk_rem4, nI_clamp, up2_o, up2_s, up2_i, cpV_o, cpV_i, ek, e6, e10, e13, e9, e11, e12, e15, e22]
          try simp (disch := omega) only [nI_lit, pk_mul, nI_add, pk_sub, pk_rem4, nI_clamp, up2_o, up2_s, up2_i, cpV_o, cpV_i, ek, e6, e10, e13, e9, e11, e12, e15, e22]
          refine fs_iald (pc2 := 139) rfl rfl rfl (by assumption) (vp_in_nI (by omega) (by decide)) ?_
          try simp (disch := omega) only [nI_lit, pk_mul, nI_add, pk_sub, pk_rem4, nI_clamp, up2_o, up2_s, up2_i, cpV_o, cpV_i, ek, e6, e10, e13, e9, e11, e12, e15, e22]
          try simp (disch := omega) only [nI_lit, pk_mul, nI_add, pk_sub, pk_rem4, nI_clamp, up2_o, up2_s, up2_i, cpV_o, cpV_i, ek, e6, e10, e13, e9, e11, e12, e15, e22]
          refine fs_iret rfl rfl True.intro ?_
          exact hP _ _ _ _ ⟨rfl, rfl, rfl, hM1, up2_s, OU.zero⟩
        · try simp (disch := omega) only [nI_lit, pk_mul, nI_add, pk_sub, pk_rem4, nI_clamp, up2_o, up2_s, up2_i, cpV_o, cpV_i, ek, e6, e10, e13, e9, e11, e12, e15, e22]
          refine fs_tswd (pc2 := 140) rfl rfl (by decide) rfl ?_
          refine fs_aload_n (pc2 := 141) rfl rfl rfl rfl ?_
          refine fs_getr (pc2 := 144) rfl rfl rfl (by assumption) rfl ?_
          refine fs_iload (pc2 := 146) rfl rfl rfl rfl ?_
          try simp (disch := omega) only [nI_lit, pk_mul, nI_add, pk_sub, pk_rem4, nI_clamp, up2_o, up2_s, up2_i, cpV_o, cpV_i, ek, e6, e10, e13, e9, e11, e12, e15, e22]
          try simp (disch := omega) only [nI_lit, pk_mul, nI_add, pk_sub, pk_rem4, nI_clamp, up2_o, up2_s, up2_i, cpV_o, cpV_i, ek, e6, e10, e13, e9, e11, e12, e15, e22]
          refine fs_iald (pc2 := 147) rfl rfl rfl (by assumption) (vp_in_nI (by omega) (by decide)) ?_
          try simp (disch := omega) only [nI_lit, pk_mul, nI_add, pk_sub, pk_rem4, nI_clamp, up2_o, up2_s, up2_i, cpV_o, cpV_i, ek, e6, e10, e13, e9, e11, e12, e15, e22]
          try simp (disch := omega) only [nI_lit, pk_mul, nI_add, pk_sub, pk_rem4, nI_clamp, up2_o, up2_s, up2_i, cpV_o, cpV_i, ek, e6, e10, e13, e9, e11, e12, e15, e22]
          refine fs_iret rfl rfl True.intro ?_
          exact hP _ _ _ _ ⟨rfl, rfl, rfl, hM1, up2_s, OU.zero⟩
      · exact absurd (by decide) h27
set_option maxRecDepth 100000 in
set_option maxHeartbeats 4000000 in
theorem m_count (hm : isMo sh mb) (hM : Mo V mb T S HH) (hh : h < 2) {w : Nat} (hw : w < 7) (h4 : sents (HH (1 - h)).2.2.2.1 ≤ 4) : fl_M cy z0 ext (d + 5) m_X7_count [.ref (z0 + mb), .int (nI h), .int (nI w)] sh V n (fun v sh' V' n' => v = some (.int (nI (cntVal (HH h) (HH (1 - h)) w))) ∧ sh' = sh ∧ n' = n ∧ Mo V' mb T S HH ∧ V' mb 0 = nI 0 ∧ OU mb V V') := by
  have m0 := hm.1
  have a26 : sh (mb + 26) = some (.inl (1, 2, none)) := hm.2 25 (1, 2) rfl
  have a34 : sh (mb + 34) = some (.inl (1, 2, none)) := hm.2 33 (1, 2) rfl
  have a39 : sh (mb + 39) = some (.inl (1, 2, none)) := hm.2 38 (1, 2) rfl
  have a41 : sh (mb + 41) = some (.inl (1, 2, none)) := hm.2 40 (1, 2) rfl
  have a42 : sh (mb + 42) = some (.inl (1, 2, none)) := hm.2 41 (1, 2) rfl
  have a43 : sh (mb + 43) = some (.inl (1, 2, none)) := hm.2 42 (1, 2) rfl
  have hHo := isHostM_nI hh
  have hM1 : Mo (up2 V mb 0 (nI 0)) mb T S (va_up HH h (HH h)) := (hM.at (h := h)).tmp FM.zero
  have hMh := hM.2 h hh
  obtain ⟨fs, e25, e26, l1, l2, q5⟩ := id hMh.2.2.2.1
  have e34 := hMh.2.2.1.1
  obtain ⟨n1, n2, n3, e41, e42, e43⟩ := id hMh.1
  have e39 := hMh.2.2.2.2.2.1.1
  have hIn : isInB (nI w) (nI 0) (nI 6) = true := by rw [isInB_nI (by omega) (by decide) (by decide)]; exact decide_eq_true (by omega)
  rw [va_up_id] at hM1
  have hWo := (hM1.2 (1 - h) (by omega)).2.2.1
  refine fs_body rfl rfl (fun Ret hP => ?_)
  refine fs_aload_n (pc2 := 1) rfl rfl rfl rfl ?_
  refine fs_iload_n (pc2 := 2) rfl rfl rfl rfl ?_
  try simp (disch := omega) only [nI_lit, pk_mul, nI_add, pk_sub, pk_rem4, nI_clamp, up2_o, up2_s, up2_i, cpV_o, cpV_i, e26, e34, e41, e42, e43, e39]
  refine fs_calls (pc2 := 5) rfl rfl rfl rfl rfl rfl ⟨rfl, rfl⟩ (Nat.le_of_ble_eq_true rfl) (Nat.le_of_ble_eq_true rfl) (Nat.le_of_ble_eq_true rfl) (m_isHost (u := nI h)) (fun v9 sh9 V9 n9 hp9 => ?_)
  obtain ⟨ea9, eb9, ec9, hv9⟩ := hp9
  cases ea9
  obtain rfl := eb9.symm
  obtain rfl := ec9.symm
  cases hv9
  rw [hHo]
  try simp (disch := omega) only [nI_lit, pk_mul, nI_add, pk_sub, pk_rem4, nI_clamp, up2_o, up2_s, up2_i, cpV_o, cpV_i, e26, e34, e41, e42, e43, e39]
  refine fs_if_eq (pc2 := 8) rfl rfl rfl (fun h5 => ?_) (fun h5 => ?_)
  · exact absurd h5 (by decide)
  · refine fs_iload_n (pc2 := 9) rfl rfl rfl rfl ?_
    refine fs_iconst (pc2 := 10) rfl rfl rfl ?_
    refine fs_bipush (pc2 := 12) rfl rfl rfl ?_
    try simp (disch := omega) only [nI_lit, pk_mul, nI_add, pk_sub, pk_rem4, nI_clamp, up2_o, up2_s, up2_i, cpV_o, cpV_i, e26, e34, e41, e42, e43, e39]
    refine fs_calls (pc2 := 15) rfl rfl rfl rfl rfl rfl ⟨rfl, rfl⟩ (Nat.le_of_ble_eq_true rfl) (Nat.le_of_ble_eq_true rfl) (Nat.le_of_ble_eq_true rfl) (m_isIn (u := nI w) (a := nI 0) (b := nI 6)) (fun v9 sh9 V9 n9 hp9 => ?_)
    obtain ⟨ea9, eb9, ec9, hv9⟩ := hp9
    cases ea9
    obtain rfl := eb9.symm
    obtain rfl := ec9.symm
    cases hv9
    rw [hIn]
    try simp (disch := omega) only [nI_lit, pk_mul, nI_add, pk_sub, pk_rem4, nI_clamp, up2_o, up2_s, up2_i, cpV_o, cpV_i, e26, e34, e41, e42, e43, e39]
    refine fs_if_eq (pc2 := 18) rfl rfl rfl (fun h15 => ?_) (fun h15 => ?_)
    · exact absurd h15 (by decide)
    · refine fs_iconst (pc2 := 19) rfl rfl rfl ?_
      refine fs_goto rfl rfl ?_
      try simp (disch := omega) only [nI_lit, pk_mul, nI_add, pk_sub, pk_rem4, nI_clamp, up2_o, up2_s, up2_i, cpV_o, cpV_i, e26, e34, e41, e42, e43, e39]
      refine fs_callv (pc2 := 26) rfl rfl rfl rfl ⟨rfl, rfl⟩ (Nat.le_of_ble_eq_true rfl) (Nat.le_of_ble_eq_true rfl) (Nat.le_of_ble_eq_true rfl) (fs_rcv rfl (by assumption)) (m_refusedE hm (w := nI 0)) (fun v9 sh9 V9 n9 hp9 => ?_)
      obtain ⟨ea9, eb9, ec9, hv9⟩ := hp9
      cases ea9
      obtain rfl := eb9.symm
      obtain rfl := ec9.symm
      cases hv9
      rw [rf0]
      try simp (disch := omega) only [nI_lit, pk_mul, nI_add, pk_sub, pk_rem4, nI_clamp, up2_o, up2_s, up2_i, cpV_o, cpV_i, e26, e34, e41, e42, e43, e39]
      refine fs_if_eq (pc2 := 29) rfl rfl rfl (fun h26 => ?_) (fun h26 => ?_)
      · refine fs_iload_n (pc2 := 32) rfl rfl rfl rfl ?_
        try simp (disch := omega) only [nI_lit, pk_mul, nI_add, pk_sub, pk_rem4, nI_clamp, up2_o, up2_s, up2_i, cpV_o, cpV_i, e26, e34, e41, e42, e43, e39]
        rcases (by omega : w = 0 ∨ w = 1 ∨ w = 2 ∨ w = 3 ∨ w = 4 ∨ w = 5 ∨ w = 6) with rfl | rfl | rfl | rfl | rfl | rfl | rfl
        · try simp (disch := omega) only [nI_lit, pk_mul, nI_add, pk_sub, pk_rem4, nI_clamp, up2_o, up2_s, up2_i, cpV_o, cpV_i, e26, e34, e41, e42, e43, e39]
          refine fs_tsw (off := 40) (pc2 := 72) rfl rfl (by decide) (by decide) rfl rfl ?_
          refine fs_aload_n (pc2 := 73) rfl rfl rfl rfl ?_
          refine fs_iload_n (pc2 := 74) rfl rfl rfl rfl ?_
          try simp (disch := omega) only [nI_lit, pk_mul, nI_add, pk_sub, pk_rem4, nI_clamp, up2_o, up2_s, up2_i, cpV_o, cpV_i, e26, e34, e41, e42, e43, e39]
          try simp (disch := omega) only [nI_lit, pk_mul, nI_add, pk_sub, pk_rem4, nI_clamp, up2_o, up2_s, up2_i, cpV_o, cpV_i, e26, e34, e41, e42, e43, e39]
          refine fs_callv (pc2 := 77) rfl rfl rfl rfl ⟨rfl, rfl⟩ (Nat.le_of_ble_eq_true rfl) (Nat.le_of_ble_eq_true rfl) (Nat.le_of_ble_eq_true rfl) (fs_rcv rfl (by assumption)) (m_buffersOf hm (ho := 1 - h) (by omega) hWo h4) (fun v9 sh9 V9 n9 hp9 => ?_)
          obtain ⟨ea9, eb9, ec9, hv9⟩ := hp9
          cases ea9
          obtain rfl := eb9.symm
          obtain rfl := ec9.symm
          cases hv9
          try simp (disch := omega) only [nI_lit, pk_mul, nI_add, pk_sub, pk_rem4, nI_clamp, up2_o, up2_s, up2_i, cpV_o, cpV_i, e26, e34, e41, e42, e43, e39]
          try simp (disch := omega) only [nI_lit, pk_mul, nI_add, pk_sub, pk_rem4, nI_clamp, up2_o, up2_s, up2_i, cpV_o, cpV_i, e26, e34, e41, e42, e43, e39]
          refine fs_iret rfl rfl True.intro ?_
          exact hP _ _ _ _ ⟨rfl, rfl, rfl, hM1, up2_s, OU.zero⟩
        · try simp (disch := omega) only [nI_lit, pk_mul, nI_add, pk_sub, pk_rem4, nI_clamp, up2_o, up2_s, up2_i, cpV_o, cpV_i, e26, e34, e41, e42, e43, e39]
          refine fs_tsw (off := 46) (pc2 := 78) rfl rfl (by decide) (by decide) rfl rfl ?_
          refine fs_aload_n (pc2 := 79) rfl rfl rfl rfl ?_
          refine fs_getr (pc2 := 82) rfl rfl rfl (by assumption) rfl ?_
          refine fs_iload_n (pc2 := 83) rfl rfl rfl rfl ?_
          try simp (disch := omega) only [nI_lit, pk_mul, nI_add, pk_sub, pk_rem4, nI_clamp, up2_o, up2_s, up2_i, cpV_o, cpV_i, e26, e34, e41, e42, e43, e39]
          try simp (disch := omega) only [nI_lit, pk_mul, nI_add, pk_sub, pk_rem4, nI_clamp, up2_o, up2_s, up2_i, cpV_o, cpV_i, e26, e34, e41, e42, e43, e39]
          refine fs_iald (pc2 := 84) rfl rfl rfl (by assumption) (vp_in_nI (by omega) (by decide)) ?_
          try simp (disch := omega) only [nI_lit, pk_mul, nI_add, pk_sub, pk_rem4, nI_clamp, up2_o, up2_s, up2_i, cpV_o, cpV_i, e26, e34, e41, e42, e43, e39]
          try simp (disch := omega) only [nI_lit, pk_mul, nI_add, pk_sub, pk_rem4, nI_clamp, up2_o, up2_s, up2_i, cpV_o, cpV_i, e26, e34, e41, e42, e43, e39]
          refine fs_iret rfl rfl True.intro ?_
          exact hP _ _ _ _ ⟨rfl, rfl, rfl, hM1, up2_s, OU.zero⟩
        · try simp (disch := omega) only [nI_lit, pk_mul, nI_add, pk_sub, pk_rem4, nI_clamp, up2_o, up2_s, up2_i, cpV_o, cpV_i, e26, e34, e41, e42, e43, e39]
          refine fs_tsw (off := 53) (pc2 := 85) rfl rfl (by decide) (by decide) rfl rfl ?_
          refine fs_aload_n (pc2 := 86) rfl rfl rfl rfl ?_
          refine fs_getr (pc2 := 89) rfl rfl rfl (by assumption) rfl ?_
          refine fs_iload_n (pc2 := 90) rfl rfl rfl rfl ?_
          try simp (disch := omega) only [nI_lit, pk_mul, nI_add, pk_sub, pk_rem4, nI_clamp, up2_o, up2_s, up2_i, cpV_o, cpV_i, e26, e34, e41, e42, e43, e39]
          try simp (disch := omega) only [nI_lit, pk_mul, nI_add, pk_sub, pk_rem4, nI_clamp, up2_o, up2_s, up2_i, cpV_o, cpV_i, e26, e34, e41, e42, e43, e39]
          refine fs_iald (pc2 := 91) rfl rfl rfl (by assumption) (vp_in_nI (by omega) (by decide)) ?_
          try simp (disch := omega) only [nI_lit, pk_mul, nI_add, pk_sub, pk_rem4, nI_clamp, up2_o, up2_s, up2_i, cpV_o, cpV_i, e26, e34, e41, e42, e43, e39]
          try simp (disch := omega) only [nI_lit, pk_mul, nI_add, pk_sub, pk_rem4, nI_clamp, up2_o, up2_s, up2_i, cpV_o, cpV_i, e26, e34, e41, e42, e43, e39]
          refine fs_iret rfl rfl True.intro ?_
          exact hP _ _ _ _ ⟨rfl, rfl, rfl, hM1, up2_s, OU.zero⟩
        · try simp (disch := omega) only [nI_lit, pk_mul, nI_add, pk_sub, pk_rem4, nI_clamp, up2_o, up2_s, up2_i, cpV_o, cpV_i, e26, e34, e41, e42, e43, e39]
          refine fs_tsw (off := 60) (pc2 := 92) rfl rfl (by decide) (by decide) rfl rfl ?_
          refine fs_aload_n (pc2 := 93) rfl rfl rfl rfl ?_
          refine fs_getr (pc2 := 96) rfl rfl rfl (by assumption) rfl ?_
          refine fs_iload_n (pc2 := 97) rfl rfl rfl rfl ?_
          try simp (disch := omega) only [nI_lit, pk_mul, nI_add, pk_sub, pk_rem4, nI_clamp, up2_o, up2_s, up2_i, cpV_o, cpV_i, e26, e34, e41, e42, e43, e39]
          try simp (disch := omega) only [nI_lit, pk_mul, nI_add, pk_sub, pk_rem4, nI_clamp, up2_o, up2_s, up2_i, cpV_o, cpV_i, e26, e34, e41, e42, e43, e39]
          refine fs_iald (pc2 := 98) rfl rfl rfl (by assumption) (vp_in_nI (by omega) (by decide)) ?_
          try simp (disch := omega) only [nI_lit, pk_mul, nI_add, pk_sub, pk_rem4, nI_clamp, up2_o, up2_s, up2_i, cpV_o, cpV_i, e26, e34, e41, e42, e43, e39]
          try simp (disch := omega) only [nI_lit, pk_mul, nI_add, pk_sub, pk_rem4, nI_clamp, up2_o, up2_s, up2_i, cpV_o, cpV_i, e26, e34, e41, e42, e43, e39]
          refine fs_iret rfl rfl True.intro ?_
          exact hP _ _ _ _ ⟨rfl, rfl, rfl, hM1, up2_s, OU.zero⟩
        · try simp (disch := omega) only [nI_lit, pk_mul, nI_add, pk_sub, pk_rem4, nI_clamp, up2_o, up2_s, up2_i, cpV_o, cpV_i, e26, e34, e41, e42, e43, e39]
          refine fs_tsw (off := 67) (pc2 := 99) rfl rfl (by decide) (by decide) rfl rfl ?_
          refine fs_aload_n (pc2 := 100) rfl rfl rfl rfl ?_
          refine fs_getr (pc2 := 103) rfl rfl rfl (by assumption) rfl ?_
          refine fs_iload_n (pc2 := 104) rfl rfl rfl rfl ?_
          try simp (disch := omega) only [nI_lit, pk_mul, nI_add, pk_sub, pk_rem4, nI_clamp, up2_o, up2_s, up2_i, cpV_o, cpV_i, e26, e34, e41, e42, e43, e39]
          try simp (disch := omega) only [nI_lit, pk_mul, nI_add, pk_sub, pk_rem4, nI_clamp, up2_o, up2_s, up2_i, cpV_o, cpV_i, e26, e34, e41, e42, e43, e39]
          refine fs_iald (pc2 := 105) rfl rfl rfl (by assumption) (vp_in_nI (by omega) (by decide)) ?_
          try simp (disch := omega) only [nI_lit, pk_mul, nI_add, pk_sub, pk_rem4, nI_clamp, up2_o, up2_s, up2_i, cpV_o, cpV_i, e26, e34, e41, e42, e43, e39]
          try simp (disch := omega) only [nI_lit, pk_mul, nI_add, pk_sub, pk_rem4, nI_clamp, up2_o, up2_s, up2_i, cpV_o, cpV_i, e26, e34, e41, e42, e43, e39]
          refine fs_iret rfl rfl True.intro ?_
          exact hP _ _ _ _ ⟨rfl, rfl, rfl, hM1, up2_s, OU.zero⟩
        · try simp (disch := omega) only [nI_lit, pk_mul, nI_add, pk_sub, pk_rem4, nI_clamp, up2_o, up2_s, up2_i, cpV_o, cpV_i, e26, e34, e41, e42, e43, e39]
          refine fs_tsw (off := 74) (pc2 := 106) rfl rfl (by decide) (by decide) rfl rfl ?_
          refine fs_aload_n (pc2 := 107) rfl rfl rfl rfl ?_
          refine fs_getr (pc2 := 110) rfl rfl rfl (by assumption) rfl ?_
          refine fs_iload_n (pc2 := 111) rfl rfl rfl rfl ?_
          try simp (disch := omega) only [nI_lit, pk_mul, nI_add, pk_sub, pk_rem4, nI_clamp, up2_o, up2_s, up2_i, cpV_o, cpV_i, e26, e34, e41, e42, e43, e39]
          try simp (disch := omega) only [nI_lit, pk_mul, nI_add, pk_sub, pk_rem4, nI_clamp, up2_o, up2_s, up2_i, cpV_o, cpV_i, e26, e34, e41, e42, e43, e39]
          refine fs_iald (pc2 := 112) rfl rfl rfl (by assumption) (vp_in_nI (by omega) (by decide)) ?_
          try simp (disch := omega) only [nI_lit, pk_mul, nI_add, pk_sub, pk_rem4, nI_clamp, up2_o, up2_s, up2_i, cpV_o, cpV_i, e26, e34, e41, e42, e43, e39]
          try simp (disch := omega) only [nI_lit, pk_mul, nI_add, pk_sub, pk_rem4, nI_clamp, up2_o, up2_s, up2_i, cpV_o, cpV_i, e26, e34, e41, e42, e43, e39]
          refine fs_iret rfl rfl True.intro ?_
          exact hP _ _ _ _ ⟨rfl, rfl, rfl, hM1, up2_s, OU.zero⟩
        · try simp (disch := omega) only [nI_lit, pk_mul, nI_add, pk_sub, pk_rem4, nI_clamp, up2_o, up2_s, up2_i, cpV_o, cpV_i, e26, e34, e41, e42, e43, e39]
          refine fs_tswd (pc2 := 113) rfl rfl (by decide) rfl ?_
          refine fs_aload_n (pc2 := 114) rfl rfl rfl rfl ?_
          refine fs_getr (pc2 := 117) rfl rfl rfl (by assumption) rfl ?_
          refine fs_iload_n (pc2 := 118) rfl rfl rfl rfl ?_
          try simp (disch := omega) only [nI_lit, pk_mul, nI_add, pk_sub, pk_rem4, nI_clamp, up2_o, up2_s, up2_i, cpV_o, cpV_i, e26, e34, e41, e42, e43, e39]
          try simp (disch := omega) only [nI_lit, pk_mul, nI_add, pk_sub, pk_rem4, nI_clamp, up2_o, up2_s, up2_i, cpV_o, cpV_i, e26, e34, e41, e42, e43, e39]
          refine fs_iald (pc2 := 119) rfl rfl rfl (by assumption) (vp_in_nI (by omega) (by decide)) ?_
          try simp (disch := omega) only [nI_lit, pk_mul, nI_add, pk_sub, pk_rem4, nI_clamp, up2_o, up2_s, up2_i, cpV_o, cpV_i, e26, e34, e41, e42, e43, e39]
          try simp (disch := omega) only [nI_lit, pk_mul, nI_add, pk_sub, pk_rem4, nI_clamp, up2_o, up2_s, up2_i, cpV_o, cpV_i, e26, e34, e41, e42, e43, e39]
          refine fs_iret rfl rfl True.intro ?_
          exact hP _ _ _ _ ⟨rfl, rfl, rfl, hM1, up2_s, OU.zero⟩
      · exact absurd (by decide) h26
end MYES
