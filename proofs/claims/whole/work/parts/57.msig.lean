theorem MM.kept {V V' : fl_V} {mb : Nat} {xs : List Nat} (h : MM V mb xs) (h1 : V' mb 47 = V mb 47) (h2 : V' (mb + 45) = V (mb + 45)) : MM V' mb xs := by
  obtain ⟨x1, x2, x3⟩ := h
  exact ⟨by rw [h1]; exact x1, x2, by rw [h2]; exact x3⟩
theorem ho_judge_le {H : Ho} {s f m p : Nat} : ho_judge H s f m p ≤ 11 := by
  unfold ho_judge
  repeat' split
  all_goals omega
section MSIG
variable {cy : Nat → ClassId} {z0 : Nat} {ext : Nat → Nat → List Value → ev_H → Nat → ev_P → Prop} {d : Nat} {sh : fl_S} {V : fl_V} {n mb : Nat} {T : Nat → Nat} {S : List Nat} {HH : Nat → Ho} {H : Ho} {h k : Nat}
set_option maxRecDepth 100000 in
set_option maxHeartbeats 4000000 in
theorem m_request (hm : isMo sh mb) (hM : Mo V mb T S (va_up HH h (hoG H []))) (hh : h < 2) (hX : HD V mb (H.2.2.2.2.2.2.drop 4)) {sid : Nat} (hl : 18 ≤ H.2.2.2.2.2.2.length) (hid : sid < 256) (hT : ∀ i, i < 2 → T i < 2048) : fl_M cy z0 ext (d + 3) m_X7_request [.ref (z0 + mb), .int (nI h), .int (nI sid)] sh V n (fun v sh' V' n' => v = none ∧ sh' = sh ∧ n' = n ∧ Mo V' mb (fun i => T i + 1) S (va_up HH h (hoG (ho_req H sid) [])) ∧ KP mb V V') := by
  have m0 := hm.1
  have a3 : sh (mb + 3) = some (.inl (1, 20, none)) := hm.2 2 (1, 20) rfl
  have a4 : sh (mb + 4) = some (.inl (1, 20, none)) := hm.2 3 (1, 20) rfl
  have a5 : sh (mb + 5) = some (.inl (1, 20, none)) := hm.2 4 (1, 20) rfl
  have a6 : sh (mb + 6) = some (.inl (1, 8, none)) := hm.2 5 (1, 8) rfl
  have a7 : sh (mb + 7) = some (.inl (1, 8, none)) := hm.2 6 (1, 8) rfl
  have a8 : sh (mb + 8) = some (.inl (1, 8, none)) := hm.2 7 (1, 8) rfl
  have a9 : sh (mb + 9) = some (.inl (1, 8, none)) := hm.2 8 (1, 8) rfl
  have a10 : sh (mb + 10) = some (.inl (1, 8, none)) := hm.2 9 (1, 8) rfl
  have a11 : sh (mb + 11) = some (.inl (1, 8, none)) := hm.2 10 (1, 8) rfl
  have a12 : sh (mb + 12) = some (.inl (1, 8, none)) := hm.2 11 (1, 8) rfl
  have a13 : sh (mb + 13) = some (.inl (1, 8, none)) := hm.2 12 (1, 8) rfl
  have a22 : sh (mb + 22) = some (.inl (1, 8, none)) := hm.2 21 (1, 8) rfl
  have l0 := tl_lt2 (H := H) hX (k := 0) (by decide)
  have l1 := tl_lt2 (H := H) hX (k := 1) (by decide)
  have l2 := tl_lt2 (H := H) hX (k := 2) (by decide)
  have l3 := tl_lt2 (H := H) hX (k := 3) (by decide)
  have l4 := tl_lt2 (H := H) hX (k := 4) (by decide)
  obtain ⟨J, hJ⟩ : ∃ J, J = ho_judge H (tl H 0) (tl H 1) (tl H 2) (tl H 3) := ⟨_, rfl⟩
  have lJ : J ≤ 11 := by rw [hJ]; exact ho_judge_le
  have er : J ≠ 0 → ho_req H sid = ho_ref H sid J := by
    intro q
    unfold ho_req
    rw [← hJ]
    split
    · rw [if_neg q]
    · rfl
  refine fs_body rfl rfl (fun Ret hP => ?_)
  refine fs_aload_n (pc2 := 1) rfl rfl rfl rfl ?_
  refine fs_iconst (pc2 := 2) rfl rfl rfl ?_
  try simp (disch := omega) only [nI_lit, pk_mul, nI_add, pk_sub, pk_rem4, nI_clamp, up2_o, up2_s, up2_i, cpV_o, cpV_i]
  refine fs_callv (pc2 := 5) rfl rfl rfl rfl ⟨rfl, rfl⟩ (Nat.le_of_ble_eq_true rfl) (Nat.le_of_ble_eq_true rfl) (Nat.le_of_ble_eq_true rfl) (fs_rcv rfl (by assumption)) (m_hand (H := H) (k := 0) hm hX (by omega) (by decide)) (fun v9 sh9 V9 n9 hp9 => ?_)
  obtain ⟨ea9, eb9, ec9, hv9⟩ := hp9
  cases ea9
  obtain rfl := eb9.symm
  obtain rfl := ec9.symm
  cases hv9
  refine fs_istore_n (pc2 := 6) rfl rfl rfl (Nat.le_of_ble_eq_true rfl) ?_
  refine fs_aload_n (pc2 := 7) rfl rfl rfl rfl ?_
  refine fs_iload_n (pc2 := 8) rfl rfl rfl rfl ?_
  refine fs_iload_n (pc2 := 9) rfl rfl rfl rfl ?_
  refine fs_aload_n (pc2 := 10) rfl rfl rfl rfl ?_
  refine fs_bipush (pc2 := 12) rfl rfl rfl ?_
  try simp (disch := omega) only [nI_lit, pk_mul, nI_add, pk_sub, pk_rem4, nI_clamp, up2_o, up2_s, up2_i, cpV_o, cpV_i]
  refine fs_callv (pc2 := 15) rfl rfl rfl rfl ⟨rfl, rfl⟩ (Nat.le_of_ble_eq_true rfl) (Nat.le_of_ble_eq_true rfl) (Nat.le_of_ble_eq_true rfl) (fs_rcv rfl (by assumption)) (m_hand (H := H) (k := 1) hm hX (by omega) (by decide)) (fun v9 sh9 V9 n9 hp9 => ?_)
  obtain ⟨ea9, eb9, ec9, hv9⟩ := hp9
  cases ea9
  obtain rfl := eb9.symm
  obtain rfl := ec9.symm
  cases hv9
  refine fs_aload_n (pc2 := 16) rfl rfl rfl rfl ?_
  refine fs_bipush (pc2 := 18) rfl rfl rfl ?_
  try simp (disch := omega) only [nI_lit, pk_mul, nI_add, pk_sub, pk_rem4, nI_clamp, up2_o, up2_s, up2_i, cpV_o, cpV_i]
  refine fs_callv (pc2 := 21) rfl rfl rfl rfl ⟨rfl, rfl⟩ (Nat.le_of_ble_eq_true rfl) (Nat.le_of_ble_eq_true rfl) (Nat.le_of_ble_eq_true rfl) (fs_rcv rfl (by assumption)) (m_hand (H := H) (k := 2) hm hX (by omega) (by decide)) (fun v9 sh9 V9 n9 hp9 => ?_)
  obtain ⟨ea9, eb9, ec9, hv9⟩ := hp9
  cases ea9
  obtain rfl := eb9.symm
  obtain rfl := ec9.symm
  cases hv9
  refine fs_aload_n (pc2 := 22) rfl rfl rfl rfl ?_
  refine fs_bipush (pc2 := 24) rfl rfl rfl ?_
  try simp (disch := omega) only [nI_lit, pk_mul, nI_add, pk_sub, pk_rem4, nI_clamp, up2_o, up2_s, up2_i, cpV_o, cpV_i]
  refine fs_callv (pc2 := 27) rfl rfl rfl rfl ⟨rfl, rfl⟩ (Nat.le_of_ble_eq_true rfl) (Nat.le_of_ble_eq_true rfl) (Nat.le_of_ble_eq_true rfl) (fs_rcv rfl (by assumption)) (m_hand (H := H) (k := 3) hm hX (by omega) (by decide)) (fun v9 sh9 V9 n9 hp9 => ?_)
  obtain ⟨ea9, eb9, ec9, hv9⟩ := hp9
  cases ea9
  obtain rfl := eb9.symm
  obtain rfl := ec9.symm
  cases hv9
  try simp (disch := omega) only [nI_lit, pk_mul, nI_add, pk_sub, pk_rem4, nI_clamp, up2_o, up2_s, up2_i, cpV_o, cpV_i]
  refine fs_callv (pc2 := 30) rfl rfl rfl rfl ⟨rfl, rfl⟩ (Nat.le_of_ble_eq_true rfl) (Nat.le_of_ble_eq_true rfl) (Nat.le_of_ble_eq_true rfl) (fs_rcv rfl (by assumption)) (m_resultOf hm hM hh l0 l1 l2 l3) (fun v9 sh9 V9 n9 hp9 => ?_)
  obtain ⟨ea9, eb9, ec9, hv9⟩ := hp9
  cases ea9
  obtain rfl := eb9.symm
  obtain rfl := ec9.symm
  cases hv9
  rw [show ho_judge (hoG H []) (tl H 0) (tl H 1) (tl H 2) (tl H 3) = J from hJ.symm]
  refine fs_istore (pc2 := 32) rfl rfl rfl (Nat.le_of_ble_eq_true rfl) ?_
  refine fs_aload_n (pc2 := 33) rfl rfl rfl rfl ?_
  refine fs_bipush (pc2 := 35) rfl rfl rfl ?_
  refine fs_iload_n (pc2 := 36) rfl rfl rfl rfl ?_
  refine fs_bipush (pc2 := 38) rfl rfl rfl ?_
  try simp (disch := omega) only [nI_lit, pk_mul, nI_add, pk_sub, pk_rem4, nI_clamp, up2_o, up2_s, up2_i, cpV_o, cpV_i]
  refine fs_callv (pc2 := 41) rfl rfl rfl rfl ⟨rfl, rfl⟩ (Nat.le_of_ble_eq_true rfl) (Nat.le_of_ble_eq_true rfl) (Nat.le_of_ble_eq_true rfl) (fs_rcv rfl (by assumption)) (m_begin hm hM (co := 21) (sid := sid) (l := 10) (by decide) hid (by decide)) (fun v9 sh9 V9 n9 hp9 => ?_)
  obtain ⟨ea9, eb9, ec9, hM1, hX1, kh1, kf1, ko1⟩ := hp9
  cases ea9
  obtain rfl := eb9.symm
  obtain rfl := ec9.symm
  have kp1 : KP mb V V9 := ⟨kf1, kh1, ko1⟩
  have hXh := hX.kept kh1
  refine fs_iload (pc2 := 43) rfl rfl rfl rfl ?_
  try simp (disch := omega) only [nI_lit, pk_mul, nI_add, pk_sub, pk_rem4, nI_clamp, up2_o, up2_s, up2_i, cpV_o, cpV_i]
  refine fs_if_eq (pc2 := 46) rfl rfl rfl (fun h43 => ?_) (fun h43 => ?_)
  · have k43 : J = 0 := c_eq (b := 0) h43 rfl rfl
    subst k43
    obtain ⟨js, k, hcl⟩ := ho_judge_0 hJ.symm
    have hk : k < 4 := (first4_lt hcl).1
    have e4 : (4 * h + k) % 4 = k := by omega
    refine fs_aload_n (pc2 := 70) rfl rfl rfl rfl ?_
    refine fs_iload_n (pc2 := 71) rfl rfl rfl rfl ?_
    try simp (disch := omega) only [nI_lit, pk_mul, nI_add, pk_sub, pk_rem4, nI_clamp, up2_o, up2_s, up2_i, cpV_o, cpV_i]
    refine fs_callv (pc2 := 74) rfl rfl rfl rfl ⟨rfl, rfl⟩ (Nat.le_of_ble_eq_true rfl) (Nat.le_of_ble_eq_true rfl) (Nat.le_of_ble_eq_true rfl) (fs_rcv rfl (by assumption)) (m_firstClosed hm hM1 hh) (fun v9 sh9 V9 n9 hp9 => ?_)
    obtain ⟨ea9, eb9, ec9, hv9⟩ := hp9
    cases ea9
    obtain rfl := eb9.symm
    obtain rfl := ec9.symm
    cases hv9
    rw [show ho_closed (hoG H []) = some k from hcl]
    dsimp only
    have hVV := (hM1.host hh).2.1 (tl H 0) (by omega)
    obtain ⟨v2, f3, f4, f5, v3, v4, v5⟩ := hVV
    have hC1 := (hM1.host hh).2.2.2.2.2.2 k hk
    refine fs_istore (pc2 := 76) rfl rfl rfl (Nat.le_of_ble_eq_true rfl) ?_
    refine fs_bipush (pc2 := 78) rfl rfl rfl ?_
    refine fs_iload_n (pc2 := 79) rfl rfl rfl rfl ?_
    refine fs_imul (pc2 := 80) rfl rfl rfl ?_
    refine fs_iload_n (pc2 := 81) rfl rfl rfl rfl ?_
    refine fs_iadd (pc2 := 82) rfl rfl rfl ?_
    refine fs_istore (pc2 := 84) rfl rfl rfl (Nat.le_of_ble_eq_true rfl) ?_
    refine fs_aload_n (pc2 := 85) rfl rfl rfl rfl ?_
    refine fs_getr (pc2 := 88) rfl rfl rfl (by assumption) rfl ?_
    refine fs_iload (pc2 := 90) rfl rfl rfl rfl ?_
    refine fs_iconst (pc2 := 91) rfl rfl rfl ?_
    first | simp (disch := omega) only [nI_lit, pk_mul, nI_add, pk_sub, pk_rem4, nI_clamp, up2_o, up2_s, up2_i, cpV_o, cpV_i, e4, f3, f4, f5] | simp (disch := omega) only [nI_lit, pk_mul, nI_add, pk_sub, pk_rem4, nI_clamp, up2_o, up2_s, up2_i, cpV_o, cpV_i] | skip
    refine fs_iast (pc2 := 92) rfl rfl rfl (by assumption) (vp_in_nI (by omega) (by decide)) ?_
    refine fs_aload_n (pc2 := 93) rfl rfl rfl rfl ?_
    refine fs_getr (pc2 := 96) rfl rfl rfl (by assumption) rfl ?_
    refine fs_iload (pc2 := 98) rfl rfl rfl rfl ?_
    refine fs_iconst (pc2 := 99) rfl rfl rfl ?_
    first | simp (disch := omega) only [nI_lit, pk_mul, nI_add, pk_sub, pk_rem4, nI_clamp, up2_o, up2_s, up2_i, cpV_o, cpV_i, e4, f3, f4, f5] | simp (disch := omega) only [nI_lit, pk_mul, nI_add, pk_sub, pk_rem4, nI_clamp, up2_o, up2_s, up2_i, cpV_o, cpV_i] | skip
    refine fs_iast (pc2 := 100) rfl rfl rfl (by assumption) (vp_in_nI (by omega) (by decide)) ?_
    refine fs_aload_n (pc2 := 101) rfl rfl rfl rfl ?_
    refine fs_getr (pc2 := 104) rfl rfl rfl (by assumption) rfl ?_
    refine fs_iload (pc2 := 106) rfl rfl rfl rfl ?_
    refine fs_aload_n (pc2 := 107) rfl rfl rfl rfl ?_
    refine fs_getr (pc2 := 110) rfl rfl rfl (by assumption) rfl ?_
    refine fs_iload (pc2 := 112) rfl rfl rfl rfl ?_
    first | simp (disch := omega) only [nI_lit, pk_mul, nI_add, pk_sub, pk_rem4, nI_clamp, up2_o, up2_s, up2_i, cpV_o, cpV_i, e4, f3, f4, f5] | simp (disch := omega) only [nI_lit, pk_mul, nI_add, pk_sub, pk_rem4, nI_clamp, up2_o, up2_s, up2_i, cpV_o, cpV_i] | skip
    refine fs_iald (pc2 := 113) rfl rfl rfl (by assumption) (vp_in_nI (by omega) (by decide)) ?_
    first | simp (disch := omega) only [nI_lit, pk_mul, nI_add, pk_sub, pk_rem4, nI_clamp, up2_o, up2_s, up2_i, cpV_o, cpV_i, e4, f3, f4, f5] | simp (disch := omega) only [nI_lit, pk_mul, nI_add, pk_sub, pk_rem4, nI_clamp, up2_o, up2_s, up2_i, cpV_o, cpV_i] | skip
    refine fs_iast (pc2 := 114) rfl rfl rfl (by assumption) (vp_in_nI (by omega) (by decide)) ?_
    refine fs_aload_n (pc2 := 115) rfl rfl rfl rfl ?_
    refine fs_getr (pc2 := 118) rfl rfl rfl (by assumption) rfl ?_
    refine fs_iload (pc2 := 120) rfl rfl rfl rfl ?_
    refine fs_aload_n (pc2 := 121) rfl rfl rfl rfl ?_
    refine fs_getr (pc2 := 124) rfl rfl rfl (by assumption) rfl ?_
    refine fs_iload (pc2 := 126) rfl rfl rfl rfl ?_
    first | simp (disch := omega) only [nI_lit, pk_mul, nI_add, pk_sub, pk_rem4, nI_clamp, up2_o, up2_s, up2_i, cpV_o, cpV_i, e4, f3, f4, f5] | simp (disch := omega) only [nI_lit, pk_mul, nI_add, pk_sub, pk_rem4, nI_clamp, up2_o, up2_s, up2_i, cpV_o, cpV_i] | skip
    refine fs_iald (pc2 := 127) rfl rfl rfl (by assumption) (vp_in_nI (by omega) (by decide)) ?_
    first | simp (disch := omega) only [nI_lit, pk_mul, nI_add, pk_sub, pk_rem4, nI_clamp, up2_o, up2_s, up2_i, cpV_o, cpV_i, e4, f3, f4, f5] | simp (disch := omega) only [nI_lit, pk_mul, nI_add, pk_sub, pk_rem4, nI_clamp, up2_o, up2_s, up2_i, cpV_o, cpV_i] | skip
    refine fs_iast (pc2 := 128) rfl rfl rfl (by assumption) (vp_in_nI (by omega) (by decide)) ?_
    refine fs_aload_n (pc2 := 129) rfl rfl rfl rfl ?_
    refine fs_getr (pc2 := 132) rfl rfl rfl (by assumption) rfl ?_
    refine fs_iload (pc2 := 134) rfl rfl rfl rfl ?_
    refine fs_aload_n (pc2 := 135) rfl rfl rfl rfl ?_
    refine fs_getr (pc2 := 138) rfl rfl rfl (by assumption) rfl ?_
    refine fs_iload (pc2 := 140) rfl rfl rfl rfl ?_
    first | simp (disch := omega) only [nI_lit, pk_mul, nI_add, pk_sub, pk_rem4, nI_clamp, up2_o, up2_s, up2_i, cpV_o, cpV_i, e4, f3, f4, f5] | simp (disch := omega) only [nI_lit, pk_mul, nI_add, pk_sub, pk_rem4, nI_clamp, up2_o, up2_s, up2_i, cpV_o, cpV_i] | skip
    refine fs_iald (pc2 := 141) rfl rfl rfl (by assumption) (vp_in_nI (by omega) (by decide)) ?_
    first | simp (disch := omega) only [nI_lit, pk_mul, nI_add, pk_sub, pk_rem4, nI_clamp, up2_o, up2_s, up2_i, cpV_o, cpV_i, e4, f3, f4, f5] | simp (disch := omega) only [nI_lit, pk_mul, nI_add, pk_sub, pk_rem4, nI_clamp, up2_o, up2_s, up2_i, cpV_o, cpV_i] | skip
    refine fs_iast (pc2 := 142) rfl rfl rfl (by assumption) (vp_in_nI (by omega) (by decide)) ?_
    refine fs_aload_n (pc2 := 143) rfl rfl rfl rfl ?_
    refine fs_getr (pc2 := 146) rfl rfl rfl (by assumption) rfl ?_
    refine fs_iload (pc2 := 148) rfl rfl rfl rfl ?_
    refine fs_aload_n (pc2 := 149) rfl rfl rfl rfl ?_
    refine fs_bipush (pc2 := 151) rfl rfl rfl ?_
    first | simp (disch := omega) only [nI_lit, pk_mul, nI_add, pk_sub, pk_rem4, nI_clamp, up2_o, up2_s, up2_i, cpV_o, cpV_i, e4, f3, f4, f5] | simp (disch := omega) only [nI_lit, pk_mul, nI_add, pk_sub, pk_rem4, nI_clamp, up2_o, up2_s, up2_i, cpV_o, cpV_i] | skip
    refine fs_callv (pc2 := 154) rfl rfl rfl rfl ⟨rfl, rfl⟩ (Nat.le_of_ble_eq_true rfl) (Nat.le_of_ble_eq_true rfl) (Nat.le_of_ble_eq_true rfl) (fs_rcv rfl (by assumption)) (m_hand (H := H) (k := 1) hm (hXh.kept (by simp (disch := omega) only [up2_o])) (by omega) (by decide)) (fun v9 sh9 V9 n9 hp9 => ?_)
    obtain ⟨ea9, eb9, ec9, hv9⟩ := hp9
    cases ea9
    obtain rfl := eb9.symm
    obtain rfl := ec9.symm
    cases hv9
    first | simp (disch := omega) only [nI_lit, pk_mul, nI_add, pk_sub, pk_rem4, nI_clamp, up2_o, up2_s, up2_i, cpV_o, cpV_i, e4, f3, f4, f5] | simp (disch := omega) only [nI_lit, pk_mul, nI_add, pk_sub, pk_rem4, nI_clamp, up2_o, up2_s, up2_i, cpV_o, cpV_i] | skip
    refine fs_iast (pc2 := 155) rfl rfl rfl (by assumption) (vp_in_nI (by omega) (by decide)) ?_
    refine fs_aload_n (pc2 := 156) rfl rfl rfl rfl ?_
    refine fs_getr (pc2 := 159) rfl rfl rfl (by assumption) rfl ?_
    refine fs_iload (pc2 := 161) rfl rfl rfl rfl ?_
    refine fs_aload_n (pc2 := 162) rfl rfl rfl rfl ?_
    refine fs_bipush (pc2 := 164) rfl rfl rfl ?_
    first | simp (disch := omega) only [nI_lit, pk_mul, nI_add, pk_sub, pk_rem4, nI_clamp, up2_o, up2_s, up2_i, cpV_o, cpV_i, e4, f3, f4, f5] | simp (disch := omega) only [nI_lit, pk_mul, nI_add, pk_sub, pk_rem4, nI_clamp, up2_o, up2_s, up2_i, cpV_o, cpV_i] | skip
    refine fs_callv (pc2 := 167) rfl rfl rfl rfl ⟨rfl, rfl⟩ (Nat.le_of_ble_eq_true rfl) (Nat.le_of_ble_eq_true rfl) (Nat.le_of_ble_eq_true rfl) (fs_rcv rfl (by assumption)) (m_hand (H := H) (k := 2) hm (hXh.kept (by simp (disch := omega) only [up2_o])) (by omega) (by decide)) (fun v9 sh9 V9 n9 hp9 => ?_)
    obtain ⟨ea9, eb9, ec9, hv9⟩ := hp9
    cases ea9
    obtain rfl := eb9.symm
    obtain rfl := ec9.symm
    cases hv9
    first | simp (disch := omega) only [nI_lit, pk_mul, nI_add, pk_sub, pk_rem4, nI_clamp, up2_o, up2_s, up2_i, cpV_o, cpV_i, e4, f3, f4, f5] | simp (disch := omega) only [nI_lit, pk_mul, nI_add, pk_sub, pk_rem4, nI_clamp, up2_o, up2_s, up2_i, cpV_o, cpV_i] | skip
    refine fs_iast (pc2 := 168) rfl rfl rfl (by assumption) (vp_in_nI (by omega) (by decide)) ?_
    refine fs_aload_n (pc2 := 169) rfl rfl rfl rfl ?_
    refine fs_getr (pc2 := 172) rfl rfl rfl (by assumption) rfl ?_
    refine fs_iload (pc2 := 174) rfl rfl rfl rfl ?_
    refine fs_aload_n (pc2 := 175) rfl rfl rfl rfl ?_
    refine fs_bipush (pc2 := 177) rfl rfl rfl ?_
    first | simp (disch := omega) only [nI_lit, pk_mul, nI_add, pk_sub, pk_rem4, nI_clamp, up2_o, up2_s, up2_i, cpV_o, cpV_i, e4, f3, f4, f5] | simp (disch := omega) only [nI_lit, pk_mul, nI_add, pk_sub, pk_rem4, nI_clamp, up2_o, up2_s, up2_i, cpV_o, cpV_i] | skip
    refine fs_callv (pc2 := 180) rfl rfl rfl rfl ⟨rfl, rfl⟩ (Nat.le_of_ble_eq_true rfl) (Nat.le_of_ble_eq_true rfl) (Nat.le_of_ble_eq_true rfl) (fs_rcv rfl (by assumption)) (m_hand (H := H) (k := 3) hm (hXh.kept (by simp (disch := omega) only [up2_o])) (by omega) (by decide)) (fun v9 sh9 V9 n9 hp9 => ?_)
    obtain ⟨ea9, eb9, ec9, hv9⟩ := hp9
    cases ea9
    obtain rfl := eb9.symm
    obtain rfl := ec9.symm
    cases hv9
    first | simp (disch := omega) only [nI_lit, pk_mul, nI_add, pk_sub, pk_rem4, nI_clamp, up2_o, up2_s, up2_i, cpV_o, cpV_i, e4, f3, f4, f5] | simp (disch := omega) only [nI_lit, pk_mul, nI_add, pk_sub, pk_rem4, nI_clamp, up2_o, up2_s, up2_i, cpV_o, cpV_i] | skip
    refine fs_iast (pc2 := 181) rfl rfl rfl (by assumption) (vp_in_nI (by omega) (by decide)) ?_
    refine fs_aload_n (pc2 := 182) rfl rfl rfl rfl ?_
    refine fs_getr (pc2 := 185) rfl rfl rfl (by assumption) rfl ?_
    refine fs_iload (pc2 := 187) rfl rfl rfl rfl ?_
    refine fs_aload_n (pc2 := 188) rfl rfl rfl rfl ?_
    refine fs_bipush (pc2 := 190) rfl rfl rfl ?_
    first | simp (disch := omega) only [nI_lit, pk_mul, nI_add, pk_sub, pk_rem4, nI_clamp, up2_o, up2_s, up2_i, cpV_o, cpV_i, e4, f3, f4, f5] | simp (disch := omega) only [nI_lit, pk_mul, nI_add, pk_sub, pk_rem4, nI_clamp, up2_o, up2_s, up2_i, cpV_o, cpV_i] | skip
    refine fs_callv (pc2 := 193) rfl rfl rfl rfl ⟨rfl, rfl⟩ (Nat.le_of_ble_eq_true rfl) (Nat.le_of_ble_eq_true rfl) (Nat.le_of_ble_eq_true rfl) (fs_rcv rfl (by assumption)) (m_hand (H := H) (k := 4) hm (hXh.kept (by simp (disch := omega) only [up2_o])) (by omega) (by decide)) (fun v9 sh9 V9 n9 hp9 => ?_)
    obtain ⟨ea9, eb9, ec9, hv9⟩ := hp9
    cases ea9
    obtain rfl := eb9.symm
    obtain rfl := ec9.symm
    cases hv9
    first | simp (disch := omega) only [nI_lit, pk_mul, nI_add, pk_sub, pk_rem4, nI_clamp, up2_o, up2_s, up2_i, cpV_o, cpV_i, e4, f3, f4, f5] | simp (disch := omega) only [nI_lit, pk_mul, nI_add, pk_sub, pk_rem4, nI_clamp, up2_o, up2_s, up2_i, cpV_o, cpV_i] | skip
    refine fs_iast (pc2 := 194) rfl rfl rfl (by assumption) (vp_in_nI (by omega) (by decide)) ?_
    refine fs_aload_n (pc2 := 195) rfl rfl rfl rfl ?_
    refine fs_bipush (pc2 := 197) rfl rfl rfl ?_
    refine fs_iload (pc2 := 199) rfl rfl rfl rfl ?_
    refine fs_iconst (pc2 := 200) rfl rfl rfl ?_
    refine fs_irem (pc2 := 201) rfl rfl rfl (by decide) ?_
    refine fs_iadd (pc2 := 202) rfl rfl rfl ?_
    first | simp (disch := omega) only [nI_lit, pk_mul, nI_add, pk_sub, pk_rem4, nI_clamp, up2_o, up2_s, up2_i, cpV_o, cpV_i, e4, f3, f4, f5] | simp (disch := omega) only [nI_lit, pk_mul, nI_add, pk_sub, pk_rem4, nI_clamp, up2_o, up2_s, up2_i, cpV_o, cpV_i] | skip
    try simp (disch := omega) only [nI_lit, pk_mul, nI_add, pk_sub, pk_rem4, nI_clamp, up2_o, up2_s, up2_i, cpV_o, cpV_i, e4]
    have hC2 : MC (up2 (up2 (up2 (up2 (up2 (up2 (up2 (up2 (up2 V9 (mb + 6) (4 * h + k) (nI 2)) (mb + 22) (4 * h + k) (nI 0)) (mb + 7) (4 * h + k) (nI (H.2.2.1 0 (tl H 0)))) (mb + 8) (4 * h + k) (nI (H.2.2.1 1 (tl H 0)))) (mb + 9) (4 * h + k) (nI (H.2.2.1 2 (tl H 0)))) (mb + 10) (4 * h + k) (nI (tl H 1))) (mb + 11) (4 * h + k) (nI (tl H 2))) (mb + 12) (4 * h + k) (nI (tl H 3))) (mb + 13) (4 * h + k) (nI (tl H 4))) mb (4 * h + k) (ch_acc (H.2.1 k) (H.2.2.1 0 (tl H 0)) (H.2.2.1 1 (tl H 0)) (H.2.2.1 2 (tl H 0)) (tl H 1) (tl H 2) (tl H 3) (tl H 4)) := by
      refine (((((((((hC1.pI (1, 6) (by decide) (by decide)).pR0).pI (3, 7) (by decide) v3).pI (4, 8) (by decide) v4).pI (5, 9) (by decide) v5).pI (6, 10) (by decide) l1).pI (7, 11) (by decide) l2).pI (8, 12) (by decide) l3).pI (9, 13) (by decide) l4).ext ?_ rfl
      intro q hq
      simp [chO] at hq
      rcases hq with rfl | rfl | rfl | rfl | rfl | rfl | rfl | rfl | rfl | rfl <;> simp [ch_acc, ch_open, va_up]
    have hM11 := hM1.pC (V' := (up2 (up2 (up2 (up2 (up2 (up2 (up2 (up2 (up2 V9 (mb + 6) (4 * h + k) (nI 2)) (mb + 22) (4 * h + k) (nI 0)) (mb + 7) (4 * h + k) (nI (H.2.2.1 0 (tl H 0)))) (mb + 8) (4 * h + k) (nI (H.2.2.1 1 (tl H 0)))) (mb + 9) (4 * h + k) (nI (H.2.2.1 2 (tl H 0)))) (mb + 10) (4 * h + k) (nI (tl H 1))) (mb + 11) (4 * h + k) (nI (tl H 2))) (mb + 12) (4 * h + k) (nI (tl H 3))) (mb + 13) (4 * h + k) (nI (tl H 4)))) hh hk (((((((((FM.refl.up (j := 6) (by simp [own])).up (j := 22) (by simp [own])).up (j := 7) (by simp [own])).up (j := 8) (by simp [own])).up (j := 9) (by simp [own])).up (j := 10) (by simp [own])).up (j := 11) (by simp [own])).up (j := 12) (by simp [own])).up (j := 13) (by simp [own])) hC2
    have kp11 : KP mb V (up2 (up2 (up2 (up2 (up2 (up2 (up2 (up2 (up2 V9 (mb + 6) (4 * h + k) (nI 2)) (mb + 22) (4 * h + k) (nI 0)) (mb + 7) (4 * h + k) (nI (H.2.2.1 0 (tl H 0)))) (mb + 8) (4 * h + k) (nI (H.2.2.1 1 (tl H 0)))) (mb + 9) (4 * h + k) (nI (H.2.2.1 2 (tl H 0)))) (mb + 10) (4 * h + k) (nI (tl H 1))) (mb + 11) (4 * h + k) (nI (tl H 2))) (mb + 12) (4 * h + k) (nI (tl H 3))) (mb + 13) (4 * h + k) (nI (tl H 4))) := kp1.trans (((((((((KP.refl.up (by decide)).up (by decide)).up (by decide)).up (by decide)).up (by decide)).up (by decide)).up (by decide)).up (by decide)).up (by decide))
    refine fs_callv (pc2 := 205) rfl rfl rfl rfl ⟨rfl, rfl⟩ (Nat.le_of_ble_eq_true rfl) (Nat.le_of_ble_eq_true rfl) (Nat.le_of_ble_eq_true rfl) (fs_rcv rfl (by assumption)) (by exact m_two hm hM11 (hX1.kept (by simp (disch := omega) only [up2_o]) (by simp (disch := omega) only [up2_o])) (by simp) (k := 64 + k) (by omega)) (fun v9 sh9 V9 n9 hp9 => ?_)
    obtain ⟨ea9, eb9, ec9, hM12, hX12, kh12, kf12, ko12⟩ := hp9
    cases ea9
    obtain rfl := eb9.symm
    obtain rfl := ec9.symm
    have kp12 := kp11.trans ⟨kf12, kh12, ko12⟩
    have g7 : V9 (mb + 7) (4 * h + k) = nI (H.2.2.1 0 (tl H 0)) := by
      have := (MC.num ((hM12.host hh).2.2.2.2.2.2 k hk) (3, 7) (by decide)).1
      simpa [va_up, ch_acc, ch_open] using this
    refine fs_aload_n (pc2 := 206) rfl rfl rfl rfl ?_
    refine fs_aload_n (pc2 := 207) rfl rfl rfl rfl ?_
    refine fs_getr (pc2 := 210) rfl rfl rfl (by assumption) rfl ?_
    refine fs_iload (pc2 := 212) rfl rfl rfl rfl ?_
    first | simp (disch := omega) only [nI_lit, pk_mul, nI_add, pk_sub, pk_rem4, nI_clamp, up2_o, up2_s, up2_i, cpV_o, cpV_i, g7] | simp (disch := omega) only [nI_lit, pk_mul, nI_add, pk_sub, pk_rem4, nI_clamp, up2_o, up2_s, up2_i, cpV_o, cpV_i] | skip
    refine fs_iald (pc2 := 213) rfl rfl rfl (by assumption) (vp_in_nI (by omega) (by decide)) ?_
    first | simp (disch := omega) only [nI_lit, pk_mul, nI_add, pk_sub, pk_rem4, nI_clamp, up2_o, up2_s, up2_i, cpV_o, cpV_i, g7] | simp (disch := omega) only [nI_lit, pk_mul, nI_add, pk_sub, pk_rem4, nI_clamp, up2_o, up2_s, up2_i, cpV_o, cpV_i] | skip
    refine fs_callv (pc2 := 216) rfl rfl rfl rfl ⟨rfl, rfl⟩ (Nat.le_of_ble_eq_true rfl) (Nat.le_of_ble_eq_true rfl) (Nat.le_of_ble_eq_true rfl) (fs_rcv rfl (by assumption)) (m_two hm hM12 hX12 (by simp) (k := H.2.2.1 0 (tl H 0)) (by omega)) (fun v9 sh9 V9 n9 hp9 => ?_)
    obtain ⟨ea9, eb9, ec9, hM13, hX13, kh13, kf13, ko13⟩ := hp9
    cases ea9
    obtain rfl := eb9.symm
    obtain rfl := ec9.symm
    have kp13 := kp12.trans ⟨kf13, kh13, ko13⟩
    have g8 : V9 (mb + 8) (4 * h + k) = nI (H.2.2.1 1 (tl H 0)) := by
      have := (MC.num ((hM13.host hh).2.2.2.2.2.2 k hk) (4, 8) (by decide)).1
      simpa [va_up, ch_acc, ch_open] using this
    refine fs_aload_n (pc2 := 217) rfl rfl rfl rfl ?_
    refine fs_aload_n (pc2 := 218) rfl rfl rfl rfl ?_
    refine fs_getr (pc2 := 221) rfl rfl rfl (by assumption) rfl ?_
    refine fs_iload (pc2 := 223) rfl rfl rfl rfl ?_
    first | simp (disch := omega) only [nI_lit, pk_mul, nI_add, pk_sub, pk_rem4, nI_clamp, up2_o, up2_s, up2_i, cpV_o, cpV_i, g8] | simp (disch := omega) only [nI_lit, pk_mul, nI_add, pk_sub, pk_rem4, nI_clamp, up2_o, up2_s, up2_i, cpV_o, cpV_i] | skip
    refine fs_iald (pc2 := 224) rfl rfl rfl (by assumption) (vp_in_nI (by omega) (by decide)) ?_
    first | simp (disch := omega) only [nI_lit, pk_mul, nI_add, pk_sub, pk_rem4, nI_clamp, up2_o, up2_s, up2_i, cpV_o, cpV_i, g8] | simp (disch := omega) only [nI_lit, pk_mul, nI_add, pk_sub, pk_rem4, nI_clamp, up2_o, up2_s, up2_i, cpV_o, cpV_i] | skip
    refine fs_callv (pc2 := 227) rfl rfl rfl rfl ⟨rfl, rfl⟩ (Nat.le_of_ble_eq_true rfl) (Nat.le_of_ble_eq_true rfl) (Nat.le_of_ble_eq_true rfl) (fs_rcv rfl (by assumption)) (m_two hm hM13 hX13 (by simp) (k := H.2.2.1 1 (tl H 0)) (by omega)) (fun v9 sh9 V9 n9 hp9 => ?_)
    obtain ⟨ea9, eb9, ec9, hM14, hX14, kh14, kf14, ko14⟩ := hp9
    cases ea9
    obtain rfl := eb9.symm
    obtain rfl := ec9.symm
    have kp14 := kp13.trans ⟨kf14, kh14, ko14⟩
    have g9 : V9 (mb + 9) (4 * h + k) = nI (H.2.2.1 2 (tl H 0)) := by
      have := (MC.num ((hM14.host hh).2.2.2.2.2.2 k hk) (5, 9) (by decide)).1
      simpa [va_up, ch_acc, ch_open] using this
    refine fs_aload_n (pc2 := 228) rfl rfl rfl rfl ?_
    refine fs_aload_n (pc2 := 229) rfl rfl rfl rfl ?_
    refine fs_getr (pc2 := 232) rfl rfl rfl (by assumption) rfl ?_
    refine fs_iload (pc2 := 234) rfl rfl rfl rfl ?_
    first | simp (disch := omega) only [nI_lit, pk_mul, nI_add, pk_sub, pk_rem4, nI_clamp, up2_o, up2_s, up2_i, cpV_o, cpV_i, g9] | simp (disch := omega) only [nI_lit, pk_mul, nI_add, pk_sub, pk_rem4, nI_clamp, up2_o, up2_s, up2_i, cpV_o, cpV_i] | skip
    refine fs_iald (pc2 := 235) rfl rfl rfl (by assumption) (vp_in_nI (by omega) (by decide)) ?_
    first | simp (disch := omega) only [nI_lit, pk_mul, nI_add, pk_sub, pk_rem4, nI_clamp, up2_o, up2_s, up2_i, cpV_o, cpV_i, g9] | simp (disch := omega) only [nI_lit, pk_mul, nI_add, pk_sub, pk_rem4, nI_clamp, up2_o, up2_s, up2_i, cpV_o, cpV_i] | skip
    refine fs_callv (pc2 := 238) rfl rfl rfl rfl ⟨rfl, rfl⟩ (Nat.le_of_ble_eq_true rfl) (Nat.le_of_ble_eq_true rfl) (Nat.le_of_ble_eq_true rfl) (fs_rcv rfl (by assumption)) (m_two hm hM14 hX14 (by simp) (k := H.2.2.1 2 (tl H 0)) (by omega)) (fun v9 sh9 V9 n9 hp9 => ?_)
    obtain ⟨ea9, eb9, ec9, hM15, hX15, kh15, kf15, ko15⟩ := hp9
    cases ea9
    obtain rfl := eb9.symm
    obtain rfl := ec9.symm
    have kp15 := kp14.trans ⟨kf15, kh15, ko15⟩
    refine fs_aload_n (pc2 := 239) rfl rfl rfl rfl ?_
    refine fs_iload (pc2 := 241) rfl rfl rfl rfl ?_
    try simp (disch := omega) only [nI_lit, pk_mul, nI_add, pk_sub, pk_rem4, nI_clamp, up2_o, up2_s, up2_i, cpV_o, cpV_i]
    refine fs_callv (pc2 := 244) rfl rfl rfl rfl ⟨rfl, rfl⟩ (Nat.le_of_ble_eq_true rfl) (Nat.le_of_ble_eq_true rfl) (Nat.le_of_ble_eq_true rfl) (fs_rcv rfl (by assumption)) (m_two hm hM15 hX15 (by simp) (k := 0) (by omega)) (fun v9 sh9 V9 n9 hp9 => ?_)
    obtain ⟨ea9, eb9, ec9, hM16, hX16, kh16, kf16, ko16⟩ := hp9
    cases ea9
    obtain rfl := eb9.symm
    obtain rfl := ec9.symm
    have kp16 := kp15.trans ⟨kf16, kh16, ko16⟩
    refine fs_aload_n (pc2 := 245) rfl rfl rfl rfl ?_
    refine fs_iload_n (pc2 := 246) rfl rfl rfl rfl ?_
    try simp (disch := omega) only [nI_lit, pk_mul, nI_add, pk_sub, pk_rem4, nI_clamp, up2_o, up2_s, up2_i, cpV_o, cpV_i]
    refine fs_callv (pc2 := 249) rfl rfl rfl rfl ⟨rfl, rfl⟩ (Nat.le_of_ble_eq_true rfl) (Nat.le_of_ble_eq_true rfl) (Nat.le_of_ble_eq_true rfl) (fs_rcv rfl (by assumption)) (m_wait hm hM16 hh hX16 (by simp) hT) (fun v9 sh9 V9 n9 hp9 => ?_)
    obtain ⟨ea9, eb9, ec9, hM20, kp20⟩ := hp9
    cases ea9
    obtain rfl := eb9.symm
    obtain rfl := ec9.symm
    try simp (disch := omega) only [nI_lit, pk_mul, nI_add, pk_sub, pk_rem4, nI_clamp, up2_o, up2_s, up2_i, cpV_o, cpV_i]
    refine fs_ret rfl rfl ?_
    rw [show ho_req H sid = ho_acc H sid k from by unfold ho_req; rw [hcl]; dsimp only; rw [← hJ, if_pos rfl]] at hP
    exact hP _ _ _ _ ⟨rfl, rfl, rfl, hM20, kp16.trans kp20⟩
  · have k43 : J ≠ 0 := c_ne (b := 0) h43 rfl rfl
    rw [er k43] at hP
    refine fs_iconst (pc2 := 47) rfl rfl rfl ?_
    refine fs_istore (pc2 := 49) rfl rfl rfl (Nat.le_of_ble_eq_true rfl) ?_
    refine fs_iload (pc2 := 51) rfl rfl rfl rfl ?_
    refine fs_iconst (pc2 := 52) rfl rfl rfl ?_
    try simp (disch := omega) only [nI_lit, pk_mul, nI_add, pk_sub, pk_rem4, nI_clamp, up2_o, up2_s, up2_i, cpV_o, cpV_i]
    refine fs_icmp_ge (pc2 := 55) rfl rfl rfl (fun h52 => ?_) (fun h52 => ?_)
    · exact absurd (by decide) h52
    · refine fs_aload_n (pc2 := 56) rfl rfl rfl rfl ?_
      refine fs_iconst (pc2 := 57) rfl rfl rfl ?_
      try simp (disch := omega) only [nI_lit, pk_mul, nI_add, pk_sub, pk_rem4, nI_clamp, up2_o, up2_s, up2_i, cpV_o, cpV_i]
      refine fs_callv (pc2 := 60) rfl rfl rfl rfl ⟨rfl, rfl⟩ (Nat.le_of_ble_eq_true rfl) (Nat.le_of_ble_eq_true rfl) (Nat.le_of_ble_eq_true rfl) (fs_rcv rfl (by assumption)) (m_two hm hM1 hX1 (by simp) (k := 0) (by omega)) (fun v9 sh9 V9 n9 hp9 => ?_)
      obtain ⟨ea9, eb9, ec9, hM2, hX2, kh2, kf2, ko2⟩ := hp9
      cases ea9
      obtain rfl := eb9.symm
      obtain rfl := ec9.symm
      have kp2 := kp1.trans ⟨kf2, kh2, ko2⟩
      refine fs_iinc (pc2 := 63) rfl rfl rfl (Nat.le_of_ble_eq_true rfl) rfl ?_
      refine fs_goto rfl rfl ?_
      refine fs_iload (pc2 := 51) rfl rfl rfl rfl ?_
      refine fs_iconst (pc2 := 52) rfl rfl rfl ?_
      try simp (disch := omega) only [nI_lit, pk_mul, nI_add, pk_sub, pk_rem4, nI_clamp, up2_o, up2_s, up2_i, cpV_o, cpV_i]
      refine fs_icmp_ge (pc2 := 55) rfl rfl rfl (fun h52 => ?_) (fun h52 => ?_)
      · exact absurd (by decide) h52
      · refine fs_aload_n (pc2 := 56) rfl rfl rfl rfl ?_
        refine fs_iconst (pc2 := 57) rfl rfl rfl ?_
        try simp (disch := omega) only [nI_lit, pk_mul, nI_add, pk_sub, pk_rem4, nI_clamp, up2_o, up2_s, up2_i, cpV_o, cpV_i]
        refine fs_callv (pc2 := 60) rfl rfl rfl rfl ⟨rfl, rfl⟩ (Nat.le_of_ble_eq_true rfl) (Nat.le_of_ble_eq_true rfl) (Nat.le_of_ble_eq_true rfl) (fs_rcv rfl (by assumption)) (m_two hm hM2 hX2 (by simp) (k := 0) (by omega)) (fun v9 sh9 V9 n9 hp9 => ?_)
        obtain ⟨ea9, eb9, ec9, hM3, hX3, kh3, kf3, ko3⟩ := hp9
        cases ea9
        obtain rfl := eb9.symm
        obtain rfl := ec9.symm
        have kp3 := kp2.trans ⟨kf3, kh3, ko3⟩
        refine fs_iinc (pc2 := 63) rfl rfl rfl (Nat.le_of_ble_eq_true rfl) rfl ?_
        refine fs_goto rfl rfl ?_
        refine fs_iload (pc2 := 51) rfl rfl rfl rfl ?_
        refine fs_iconst (pc2 := 52) rfl rfl rfl ?_
        try simp (disch := omega) only [nI_lit, pk_mul, nI_add, pk_sub, pk_rem4, nI_clamp, up2_o, up2_s, up2_i, cpV_o, cpV_i]
        refine fs_icmp_ge (pc2 := 55) rfl rfl rfl (fun h52 => ?_) (fun h52 => ?_)
        · exact absurd (by decide) h52
        · refine fs_aload_n (pc2 := 56) rfl rfl rfl rfl ?_
          refine fs_iconst (pc2 := 57) rfl rfl rfl ?_
          try simp (disch := omega) only [nI_lit, pk_mul, nI_add, pk_sub, pk_rem4, nI_clamp, up2_o, up2_s, up2_i, cpV_o, cpV_i]
          refine fs_callv (pc2 := 60) rfl rfl rfl rfl ⟨rfl, rfl⟩ (Nat.le_of_ble_eq_true rfl) (Nat.le_of_ble_eq_true rfl) (Nat.le_of_ble_eq_true rfl) (fs_rcv rfl (by assumption)) (m_two hm hM3 hX3 (by simp) (k := 0) (by omega)) (fun v9 sh9 V9 n9 hp9 => ?_)
          obtain ⟨ea9, eb9, ec9, hM4, hX4, kh4, kf4, ko4⟩ := hp9
          cases ea9
          obtain rfl := eb9.symm
          obtain rfl := ec9.symm
          have kp4 := kp3.trans ⟨kf4, kh4, ko4⟩
          refine fs_iinc (pc2 := 63) rfl rfl rfl (Nat.le_of_ble_eq_true rfl) rfl ?_
          refine fs_goto rfl rfl ?_
          refine fs_iload (pc2 := 51) rfl rfl rfl rfl ?_
          refine fs_iconst (pc2 := 52) rfl rfl rfl ?_
          try simp (disch := omega) only [nI_lit, pk_mul, nI_add, pk_sub, pk_rem4, nI_clamp, up2_o, up2_s, up2_i, cpV_o, cpV_i]
          refine fs_icmp_ge (pc2 := 55) rfl rfl rfl (fun h52 => ?_) (fun h52 => ?_)
          · exact absurd (by decide) h52
          · refine fs_aload_n (pc2 := 56) rfl rfl rfl rfl ?_
            refine fs_iconst (pc2 := 57) rfl rfl rfl ?_
            try simp (disch := omega) only [nI_lit, pk_mul, nI_add, pk_sub, pk_rem4, nI_clamp, up2_o, up2_s, up2_i, cpV_o, cpV_i]
            refine fs_callv (pc2 := 60) rfl rfl rfl rfl ⟨rfl, rfl⟩ (Nat.le_of_ble_eq_true rfl) (Nat.le_of_ble_eq_true rfl) (Nat.le_of_ble_eq_true rfl) (fs_rcv rfl (by assumption)) (m_two hm hM4 hX4 (by simp) (k := 0) (by omega)) (fun v9 sh9 V9 n9 hp9 => ?_)
            obtain ⟨ea9, eb9, ec9, hM5, hX5, kh5, kf5, ko5⟩ := hp9
            cases ea9
            obtain rfl := eb9.symm
            obtain rfl := ec9.symm
            have kp5 := kp4.trans ⟨kf5, kh5, ko5⟩
            refine fs_iinc (pc2 := 63) rfl rfl rfl (Nat.le_of_ble_eq_true rfl) rfl ?_
            refine fs_goto rfl rfl ?_
            refine fs_iload (pc2 := 51) rfl rfl rfl rfl ?_
            refine fs_iconst (pc2 := 52) rfl rfl rfl ?_
            try simp (disch := omega) only [nI_lit, pk_mul, nI_add, pk_sub, pk_rem4, nI_clamp, up2_o, up2_s, up2_i, cpV_o, cpV_i]
            refine fs_icmp_ge (pc2 := 55) rfl rfl rfl (fun h52 => ?_) (fun h52 => ?_)
            · refine fs_goto rfl rfl ?_
              refine fs_aload_n (pc2 := 239) rfl rfl rfl rfl ?_
              refine fs_iload (pc2 := 241) rfl rfl rfl rfl ?_
              try simp (disch := omega) only [nI_lit, pk_mul, nI_add, pk_sub, pk_rem4, nI_clamp, up2_o, up2_s, up2_i, cpV_o, cpV_i]
              refine fs_callv (pc2 := 244) rfl rfl rfl rfl ⟨rfl, rfl⟩ (Nat.le_of_ble_eq_true rfl) (Nat.le_of_ble_eq_true rfl) (Nat.le_of_ble_eq_true rfl) (fs_rcv rfl (by assumption)) (m_two hm hM5 hX5 (by simp) (k := J) (by omega)) (fun v9 sh9 V9 n9 hp9 => ?_)
              obtain ⟨ea9, eb9, ec9, hM6, hX6, kh6, kf6, ko6⟩ := hp9
              cases ea9
              obtain rfl := eb9.symm
              obtain rfl := ec9.symm
              have kp6 := kp5.trans ⟨kf6, kh6, ko6⟩
              refine fs_aload_n (pc2 := 245) rfl rfl rfl rfl ?_
              refine fs_iload_n (pc2 := 246) rfl rfl rfl rfl ?_
              try simp (disch := omega) only [nI_lit, pk_mul, nI_add, pk_sub, pk_rem4, nI_clamp, up2_o, up2_s, up2_i, cpV_o, cpV_i]
              refine fs_callv (pc2 := 249) rfl rfl rfl rfl ⟨rfl, rfl⟩ (Nat.le_of_ble_eq_true rfl) (Nat.le_of_ble_eq_true rfl) (Nat.le_of_ble_eq_true rfl) (fs_rcv rfl (by assumption)) (m_wait hm hM6 hh hX6 (by simp) hT) (fun v9 sh9 V9 n9 hp9 => ?_)
              obtain ⟨ea9, eb9, ec9, hM20, kp20⟩ := hp9
              cases ea9
              obtain rfl := eb9.symm
              obtain rfl := ec9.symm
              try simp (disch := omega) only [nI_lit, pk_mul, nI_add, pk_sub, pk_rem4, nI_clamp, up2_o, up2_s, up2_i, cpV_o, cpV_i]
              refine fs_ret rfl rfl ?_
              exact hP _ _ _ _ ⟨rfl, rfl, rfl, hM20, kp6.trans kp20⟩
            · exact absurd h52 (by decide)
set_option maxRecDepth 100000 in
set_option maxHeartbeats 4000000 in
theorem m_response (hm : isMo sh mb) (hM : Mo V mb T S (va_up HH h (hoG H []))) (hh : h < 2) (hX : HD V mb (H.2.2.2.2.2.2.drop 4)) (hk : k < 4) (hl : 18 ≤ H.2.2.2.2.2.2.length) (hrx : (H.2.1 k).2.2.2.1 = []) : fl_M cy z0 ext (d + 3) m_X7_response [.ref (z0 + mb), .int (nI (4 * h + k))] sh V n (fun v sh' V' n' => v = none ∧ sh' = sh ∧ n' = n ∧ Mo V' mb T S (va_up HH h (hoG (ho_ans1 H k) [])) ∧ KP mb V V') := by
  have m0 := hm.1
  have a6 : sh (mb + 6) = some (.inl (1, 8, none)) := hm.2 5 (1, 8) rfl
  have a10 : sh (mb + 10) = some (.inl (1, 8, none)) := hm.2 9 (1, 8) rfl
  have a11 : sh (mb + 11) = some (.inl (1, 8, none)) := hm.2 10 (1, 8) rfl
  have a12 : sh (mb + 12) = some (.inl (1, 8, none)) := hm.2 11 (1, 8) rfl
  have a13 : sh (mb + 13) = some (.inl (1, 8, none)) := hm.2 12 (1, 8) rfl
  have a22 : sh (mb + 22) = some (.inl (1, 8, none)) := hm.2 21 (1, 8) rfl
  have l0 := tl_lt2 (H := H) hX (k := 0) (by decide)
  have l1 := tl_lt2 (H := H) hX (k := 1) (by decide)
  have l2 := tl_lt2 (H := H) hX (k := 2) (by decide)
  have l3 := tl_lt2 (H := H) hX (k := 3) (by decide)
  have l4 := tl_lt2 (H := H) hX (k := 4) (by decide)
  have hC1 := (hM.host hh).2.2.2.2.2.2 k hk
  refine fs_body rfl rfl (fun Ret hP => ?_)
  refine fs_aload_n (pc2 := 1) rfl rfl rfl rfl ?_
  refine fs_bipush (pc2 := 3) rfl rfl rfl ?_
  try simp (disch := omega) only [nI_lit, pk_mul, nI_add, pk_sub, pk_rem4, nI_clamp, up2_o, up2_s, up2_i, cpV_o, cpV_i]
  refine fs_callv (pc2 := 6) rfl rfl rfl rfl ⟨rfl, rfl⟩ (Nat.le_of_ble_eq_true rfl) (Nat.le_of_ble_eq_true rfl) (Nat.le_of_ble_eq_true rfl) (fs_rcv rfl (by assumption)) (m_hand (H := H) (k := 4) hm hX (by omega) (by decide)) (fun v9 sh9 V9 n9 hp9 => ?_)
  obtain ⟨ea9, eb9, ec9, hv9⟩ := hp9
  cases ea9
  obtain rfl := eb9.symm
  obtain rfl := ec9.symm
  cases hv9
  try simp (disch := omega) only [nI_lit, pk_mul, nI_add, pk_sub, pk_rem4, nI_clamp, up2_o, up2_s, up2_i, cpV_o, cpV_i]
  refine fs_if_ne (pc2 := 9) rfl rfl rfl (fun h6 => ?_) (fun h6 => ?_)
  · have k6 : tl H 4 ≠ 0 := c_ne (b := 0) h6 rfl rfl
    have ea : ho_ans1 H k = hoC H k (ch_close (H.2.1 k)) := by unfold ho_ans1; rw [if_neg (by omega)]
    refine fs_iconst (pc2 := 51) rfl rfl rfl ?_
    refine fs_istore_n (pc2 := 52) rfl rfl rfl (Nat.le_of_ble_eq_true rfl) ?_
    refine fs_iload_n (pc2 := 53) rfl rfl rfl rfl ?_
    try simp (disch := omega) only [nI_lit, pk_mul, nI_add, pk_sub, pk_rem4, nI_clamp, up2_o, up2_s, up2_i, cpV_o, cpV_i]
    refine fs_if_ne (pc2 := 56) rfl rfl rfl (fun h53 => ?_) (fun h53 => ?_)
    · exact absurd rfl h53
    · refine fs_aload_n (pc2 := 57) rfl rfl rfl rfl ?_
      refine fs_iload_n (pc2 := 58) rfl rfl rfl rfl ?_
      try simp (disch := omega) only [nI_lit, pk_mul, nI_add, pk_sub, pk_rem4, nI_clamp, up2_o, up2_s, up2_i, cpV_o, cpV_i]
      refine fs_callv (pc2 := 61) rfl rfl rfl rfl ⟨rfl, rfl⟩ (Nat.le_of_ble_eq_true rfl) (Nat.le_of_ble_eq_true rfl) (Nat.le_of_ble_eq_true rfl) (fs_rcv rfl (by assumption)) (m_close hm hM hh hk) (fun v9 sh9 V9 n9 hp9 => ?_)
      obtain ⟨ea9, eb9, ec9, hM2, kp2⟩ := hp9
      cases ea9
      obtain rfl := eb9.symm
      obtain rfl := ec9.symm
      try simp (disch := omega) only [nI_lit, pk_mul, nI_add, pk_sub, pk_rem4, nI_clamp, up2_o, up2_s, up2_i, cpV_o, cpV_i]
      refine fs_ret rfl rfl ?_
      rw [ea] at hP
      exact hP _ _ _ _ ⟨rfl, rfl, rfl, hM2, kp2⟩
  · have k6 : tl H 4 = 0 := c_eq (b := 0) h6 rfl rfl
    refine fs_aload_n (pc2 := 10) rfl rfl rfl rfl ?_
    refine fs_iconst (pc2 := 11) rfl rfl rfl ?_
    try simp (disch := omega) only [nI_lit, pk_mul, nI_add, pk_sub, pk_rem4, nI_clamp, up2_o, up2_s, up2_i, cpV_o, cpV_i]
    refine fs_callv (pc2 := 14) rfl rfl rfl rfl ⟨rfl, rfl⟩ (Nat.le_of_ble_eq_true rfl) (Nat.le_of_ble_eq_true rfl) (Nat.le_of_ble_eq_true rfl) (fs_rcv rfl (by assumption)) (m_hand (H := H) (k := 0) hm hX (by omega) (by decide)) (fun v9 sh9 V9 n9 hp9 => ?_)
    obtain ⟨ea9, eb9, ec9, hv9⟩ := hp9
    cases ea9
    obtain rfl := eb9.symm
    obtain rfl := ec9.symm
    cases hv9
    refine fs_bipush (pc2 := 16) rfl rfl rfl ?_
    refine fs_bipush (pc2 := 18) rfl rfl rfl ?_
    try simp (disch := omega) only [nI_lit, pk_mul, nI_add, pk_sub, pk_rem4, nI_clamp, up2_o, up2_s, up2_i, cpV_o, cpV_i]
    refine fs_calls (pc2 := 21) rfl rfl rfl rfl rfl rfl ⟨rfl, rfl⟩ (Nat.le_of_ble_eq_true rfl) (Nat.le_of_ble_eq_true rfl) (Nat.le_of_ble_eq_true rfl) (m_isIn (u := nI (tl H 0)) (a := nI 64) (b := nI 127)) (fun v9 sh9 V9 n9 hp9 => ?_)
    obtain ⟨ea9, eb9, ec9, hv9⟩ := hp9
    cases ea9
    obtain rfl := eb9.symm
    obtain rfl := ec9.symm
    cases hv9
    rw [isInB_nI (by omega) (by decide) (by decide)]
    try simp (disch := omega) only [nI_lit, pk_mul, nI_add, pk_sub, pk_rem4, nI_clamp, up2_o, up2_s, up2_i, cpV_o, cpV_i]
    refine fs_if_eq (pc2 := 24) rfl rfl rfl (fun h21 => ?_) (fun h21 => ?_)
    · have k21 := of_decide_eq_false (bI_0.mp h21)
      have ea : ho_ans1 H k = hoC H k (ch_close (H.2.1 k)) := by unfold ho_ans1; rw [if_neg (by omega)]
      refine fs_iconst (pc2 := 51) rfl rfl rfl ?_
      refine fs_istore_n (pc2 := 52) rfl rfl rfl (Nat.le_of_ble_eq_true rfl) ?_
      refine fs_iload_n (pc2 := 53) rfl rfl rfl rfl ?_
      try simp (disch := omega) only [nI_lit, pk_mul, nI_add, pk_sub, pk_rem4, nI_clamp, up2_o, up2_s, up2_i, cpV_o, cpV_i]
      refine fs_if_ne (pc2 := 56) rfl rfl rfl (fun h53 => ?_) (fun h53 => ?_)
      · exact absurd rfl h53
      · refine fs_aload_n (pc2 := 57) rfl rfl rfl rfl ?_
        refine fs_iload_n (pc2 := 58) rfl rfl rfl rfl ?_
        try simp (disch := omega) only [nI_lit, pk_mul, nI_add, pk_sub, pk_rem4, nI_clamp, up2_o, up2_s, up2_i, cpV_o, cpV_i]
        refine fs_callv (pc2 := 61) rfl rfl rfl rfl ⟨rfl, rfl⟩ (Nat.le_of_ble_eq_true rfl) (Nat.le_of_ble_eq_true rfl) (Nat.le_of_ble_eq_true rfl) (fs_rcv rfl (by assumption)) (m_close hm hM hh hk) (fun v9 sh9 V9 n9 hp9 => ?_)
        obtain ⟨ea9, eb9, ec9, hM2, kp2⟩ := hp9
        cases ea9
        obtain rfl := eb9.symm
        obtain rfl := ec9.symm
        try simp (disch := omega) only [nI_lit, pk_mul, nI_add, pk_sub, pk_rem4, nI_clamp, up2_o, up2_s, up2_i, cpV_o, cpV_i]
        refine fs_ret rfl rfl ?_
        rw [ea] at hP
        exact hP _ _ _ _ ⟨rfl, rfl, rfl, hM2, kp2⟩
    · have k21 := of_decide_eq_true (bI_t h21)
      refine fs_aload_n (pc2 := 25) rfl rfl rfl rfl ?_
      refine fs_bipush (pc2 := 27) rfl rfl rfl ?_
      try simp (disch := omega) only [nI_lit, pk_mul, nI_add, pk_sub, pk_rem4, nI_clamp, up2_o, up2_s, up2_i, cpV_o, cpV_i]
      refine fs_callv (pc2 := 30) rfl rfl rfl rfl ⟨rfl, rfl⟩ (Nat.le_of_ble_eq_true rfl) (Nat.le_of_ble_eq_true rfl) (Nat.le_of_ble_eq_true rfl) (fs_rcv rfl (by assumption)) (m_hand (H := H) (k := 1) hm hX (by omega) (by decide)) (fun v9 sh9 V9 n9 hp9 => ?_)
      obtain ⟨ea9, eb9, ec9, hv9⟩ := hp9
      cases ea9
      obtain rfl := eb9.symm
      obtain rfl := ec9.symm
      cases hv9
      refine fs_bipush (pc2 := 32) rfl rfl rfl ?_
      try simp (disch := omega) only [nI_lit, pk_mul, nI_add, pk_sub, pk_rem4, nI_clamp, up2_o, up2_s, up2_i, cpV_o, cpV_i]
      refine fs_icmp_lt (pc2 := 35) rfl rfl rfl (fun h32 => ?_) (fun h32 => ?_)
      · have k32 : tl H 1 < 23 := c_lt (b := 23) h32 rfl rfl
        have ea : ho_ans1 H k = hoC H k (ch_close (H.2.1 k)) := by unfold ho_ans1; rw [if_neg (by omega)]
        refine fs_iconst (pc2 := 51) rfl rfl rfl ?_
        refine fs_istore_n (pc2 := 52) rfl rfl rfl (Nat.le_of_ble_eq_true rfl) ?_
        refine fs_iload_n (pc2 := 53) rfl rfl rfl rfl ?_
        try simp (disch := omega) only [nI_lit, pk_mul, nI_add, pk_sub, pk_rem4, nI_clamp, up2_o, up2_s, up2_i, cpV_o, cpV_i]
        refine fs_if_ne (pc2 := 56) rfl rfl rfl (fun h53 => ?_) (fun h53 => ?_)
        · exact absurd rfl h53
        · refine fs_aload_n (pc2 := 57) rfl rfl rfl rfl ?_
          refine fs_iload_n (pc2 := 58) rfl rfl rfl rfl ?_
          try simp (disch := omega) only [nI_lit, pk_mul, nI_add, pk_sub, pk_rem4, nI_clamp, up2_o, up2_s, up2_i, cpV_o, cpV_i]
          refine fs_callv (pc2 := 61) rfl rfl rfl rfl ⟨rfl, rfl⟩ (Nat.le_of_ble_eq_true rfl) (Nat.le_of_ble_eq_true rfl) (Nat.le_of_ble_eq_true rfl) (fs_rcv rfl (by assumption)) (m_close hm hM hh hk) (fun v9 sh9 V9 n9 hp9 => ?_)
          obtain ⟨ea9, eb9, ec9, hM2, kp2⟩ := hp9
          cases ea9
          obtain rfl := eb9.symm
          obtain rfl := ec9.symm
          try simp (disch := omega) only [nI_lit, pk_mul, nI_add, pk_sub, pk_rem4, nI_clamp, up2_o, up2_s, up2_i, cpV_o, cpV_i]
          refine fs_ret rfl rfl ?_
          rw [ea] at hP
          exact hP _ _ _ _ ⟨rfl, rfl, rfl, hM2, kp2⟩
      · have k32 : 23 ≤ tl H 1 := c_nlt (b := 23) h32 rfl rfl
        refine fs_aload_n (pc2 := 36) rfl rfl rfl rfl ?_
        refine fs_bipush (pc2 := 38) rfl rfl rfl ?_
        try simp (disch := omega) only [nI_lit, pk_mul, nI_add, pk_sub, pk_rem4, nI_clamp, up2_o, up2_s, up2_i, cpV_o, cpV_i]
        refine fs_callv (pc2 := 41) rfl rfl rfl rfl ⟨rfl, rfl⟩ (Nat.le_of_ble_eq_true rfl) (Nat.le_of_ble_eq_true rfl) (Nat.le_of_ble_eq_true rfl) (fs_rcv rfl (by assumption)) (m_hand (H := H) (k := 2) hm hX (by omega) (by decide)) (fun v9 sh9 V9 n9 hp9 => ?_)
        obtain ⟨ea9, eb9, ec9, hv9⟩ := hp9
        cases ea9
        obtain rfl := eb9.symm
        obtain rfl := ec9.symm
        cases hv9
        refine fs_bipush (pc2 := 43) rfl rfl rfl ?_
        try simp (disch := omega) only [nI_lit, pk_mul, nI_add, pk_sub, pk_rem4, nI_clamp, up2_o, up2_s, up2_i, cpV_o, cpV_i]
        refine fs_icmp_lt (pc2 := 46) rfl rfl rfl (fun h43 => ?_) (fun h43 => ?_)
        · have k43 : tl H 2 < 23 := c_lt (b := 23) h43 rfl rfl
          have ea : ho_ans1 H k = hoC H k (ch_close (H.2.1 k)) := by unfold ho_ans1; rw [if_neg (by omega)]
          refine fs_iconst (pc2 := 51) rfl rfl rfl ?_
          refine fs_istore_n (pc2 := 52) rfl rfl rfl (Nat.le_of_ble_eq_true rfl) ?_
          refine fs_iload_n (pc2 := 53) rfl rfl rfl rfl ?_
          try simp (disch := omega) only [nI_lit, pk_mul, nI_add, pk_sub, pk_rem4, nI_clamp, up2_o, up2_s, up2_i, cpV_o, cpV_i]
          refine fs_if_ne (pc2 := 56) rfl rfl rfl (fun h53 => ?_) (fun h53 => ?_)
          · exact absurd rfl h53
          · refine fs_aload_n (pc2 := 57) rfl rfl rfl rfl ?_
            refine fs_iload_n (pc2 := 58) rfl rfl rfl rfl ?_
            try simp (disch := omega) only [nI_lit, pk_mul, nI_add, pk_sub, pk_rem4, nI_clamp, up2_o, up2_s, up2_i, cpV_o, cpV_i]
            refine fs_callv (pc2 := 61) rfl rfl rfl rfl ⟨rfl, rfl⟩ (Nat.le_of_ble_eq_true rfl) (Nat.le_of_ble_eq_true rfl) (Nat.le_of_ble_eq_true rfl) (fs_rcv rfl (by assumption)) (m_close hm hM hh hk) (fun v9 sh9 V9 n9 hp9 => ?_)
            obtain ⟨ea9, eb9, ec9, hM2, kp2⟩ := hp9
            cases ea9
            obtain rfl := eb9.symm
            obtain rfl := ec9.symm
            try simp (disch := omega) only [nI_lit, pk_mul, nI_add, pk_sub, pk_rem4, nI_clamp, up2_o, up2_s, up2_i, cpV_o, cpV_i]
            refine fs_ret rfl rfl ?_
            rw [ea] at hP
            exact hP _ _ _ _ ⟨rfl, rfl, rfl, hM2, kp2⟩
        · have k43 : 23 ≤ tl H 2 := c_nlt (b := 23) h43 rfl rfl
          refine fs_iconst (pc2 := 47) rfl rfl rfl ?_
          refine fs_goto rfl rfl ?_
          refine fs_istore_n (pc2 := 52) rfl rfl rfl (Nat.le_of_ble_eq_true rfl) ?_
          refine fs_iload_n (pc2 := 53) rfl rfl rfl rfl ?_
          try simp (disch := omega) only [nI_lit, pk_mul, nI_add, pk_sub, pk_rem4, nI_clamp, up2_o, up2_s, up2_i, cpV_o, cpV_i]
          refine fs_if_ne (pc2 := 56) rfl rfl rfl (fun h53 => ?_) (fun h53 => ?_)
          · refine fs_aload_n (pc2 := 63) rfl rfl rfl rfl ?_
            refine fs_getr (pc2 := 66) rfl rfl rfl (by assumption) rfl ?_
            refine fs_iload_n (pc2 := 67) rfl rfl rfl rfl ?_
            refine fs_iconst (pc2 := 68) rfl rfl rfl ?_
            try simp (disch := omega) only [nI_lit, pk_mul, nI_add, pk_sub, pk_rem4, nI_clamp, up2_o, up2_s, up2_i, cpV_o, cpV_i]
            refine fs_iast (pc2 := 69) rfl rfl rfl (by assumption) (vp_in_nI (by omega) (by decide)) ?_
            refine fs_aload_n (pc2 := 70) rfl rfl rfl rfl ?_
            refine fs_getr (pc2 := 73) rfl rfl rfl (by assumption) rfl ?_
            refine fs_iload_n (pc2 := 74) rfl rfl rfl rfl ?_
            refine fs_iconst (pc2 := 75) rfl rfl rfl ?_
            try simp (disch := omega) only [nI_lit, pk_mul, nI_add, pk_sub, pk_rem4, nI_clamp, up2_o, up2_s, up2_i, cpV_o, cpV_i]
            refine fs_iast (pc2 := 76) rfl rfl rfl (by assumption) (vp_in_nI (by omega) (by decide)) ?_
            refine fs_aload_n (pc2 := 77) rfl rfl rfl rfl ?_
            refine fs_getr (pc2 := 80) rfl rfl rfl (by assumption) rfl ?_
            refine fs_iload_n (pc2 := 81) rfl rfl rfl rfl ?_
            refine fs_aload_n (pc2 := 82) rfl rfl rfl rfl ?_
            refine fs_iconst (pc2 := 83) rfl rfl rfl ?_
            try simp (disch := omega) only [nI_lit, pk_mul, nI_add, pk_sub, pk_rem4, nI_clamp, up2_o, up2_s, up2_i, cpV_o, cpV_i]
            refine fs_callv (pc2 := 86) rfl rfl rfl rfl ⟨rfl, rfl⟩ (Nat.le_of_ble_eq_true rfl) (Nat.le_of_ble_eq_true rfl) (Nat.le_of_ble_eq_true rfl) (fs_rcv rfl (by assumption)) (m_hand (H := H) (k := 0) hm (hX.kept (by simp (disch := omega) only [up2_o])) (by omega) (by decide)) (fun v9 sh9 V9 n9 hp9 => ?_)
            obtain ⟨ea9, eb9, ec9, hv9⟩ := hp9
            cases ea9
            obtain rfl := eb9.symm
            obtain rfl := ec9.symm
            cases hv9
            try simp (disch := omega) only [nI_lit, pk_mul, nI_add, pk_sub, pk_rem4, nI_clamp, up2_o, up2_s, up2_i, cpV_o, cpV_i]
            refine fs_iast (pc2 := 87) rfl rfl rfl (by assumption) (vp_in_nI (by omega) (by decide)) ?_
            refine fs_aload_n (pc2 := 88) rfl rfl rfl rfl ?_
            refine fs_getr (pc2 := 91) rfl rfl rfl (by assumption) rfl ?_
            refine fs_iload_n (pc2 := 92) rfl rfl rfl rfl ?_
            refine fs_aload_n (pc2 := 93) rfl rfl rfl rfl ?_
            refine fs_bipush (pc2 := 95) rfl rfl rfl ?_
            try simp (disch := omega) only [nI_lit, pk_mul, nI_add, pk_sub, pk_rem4, nI_clamp, up2_o, up2_s, up2_i, cpV_o, cpV_i]
            refine fs_callv (pc2 := 98) rfl rfl rfl rfl ⟨rfl, rfl⟩ (Nat.le_of_ble_eq_true rfl) (Nat.le_of_ble_eq_true rfl) (Nat.le_of_ble_eq_true rfl) (fs_rcv rfl (by assumption)) (m_hand (H := H) (k := 1) hm (hX.kept (by simp (disch := omega) only [up2_o])) (by omega) (by decide)) (fun v9 sh9 V9 n9 hp9 => ?_)
            obtain ⟨ea9, eb9, ec9, hv9⟩ := hp9
            cases ea9
            obtain rfl := eb9.symm
            obtain rfl := ec9.symm
            cases hv9
            try simp (disch := omega) only [nI_lit, pk_mul, nI_add, pk_sub, pk_rem4, nI_clamp, up2_o, up2_s, up2_i, cpV_o, cpV_i]
            refine fs_iast (pc2 := 99) rfl rfl rfl (by assumption) (vp_in_nI (by omega) (by decide)) ?_
            refine fs_aload_n (pc2 := 100) rfl rfl rfl rfl ?_
            refine fs_getr (pc2 := 103) rfl rfl rfl (by assumption) rfl ?_
            refine fs_iload_n (pc2 := 104) rfl rfl rfl rfl ?_
            refine fs_aload_n (pc2 := 105) rfl rfl rfl rfl ?_
            refine fs_bipush (pc2 := 107) rfl rfl rfl ?_
            try simp (disch := omega) only [nI_lit, pk_mul, nI_add, pk_sub, pk_rem4, nI_clamp, up2_o, up2_s, up2_i, cpV_o, cpV_i]
            refine fs_callv (pc2 := 110) rfl rfl rfl rfl ⟨rfl, rfl⟩ (Nat.le_of_ble_eq_true rfl) (Nat.le_of_ble_eq_true rfl) (Nat.le_of_ble_eq_true rfl) (fs_rcv rfl (by assumption)) (m_hand (H := H) (k := 2) hm (hX.kept (by simp (disch := omega) only [up2_o])) (by omega) (by decide)) (fun v9 sh9 V9 n9 hp9 => ?_)
            obtain ⟨ea9, eb9, ec9, hv9⟩ := hp9
            cases ea9
            obtain rfl := eb9.symm
            obtain rfl := ec9.symm
            cases hv9
            try simp (disch := omega) only [nI_lit, pk_mul, nI_add, pk_sub, pk_rem4, nI_clamp, up2_o, up2_s, up2_i, cpV_o, cpV_i]
            refine fs_iast (pc2 := 111) rfl rfl rfl (by assumption) (vp_in_nI (by omega) (by decide)) ?_
            refine fs_aload_n (pc2 := 112) rfl rfl rfl rfl ?_
            refine fs_getr (pc2 := 115) rfl rfl rfl (by assumption) rfl ?_
            refine fs_iload_n (pc2 := 116) rfl rfl rfl rfl ?_
            refine fs_aload_n (pc2 := 117) rfl rfl rfl rfl ?_
            refine fs_bipush (pc2 := 119) rfl rfl rfl ?_
            try simp (disch := omega) only [nI_lit, pk_mul, nI_add, pk_sub, pk_rem4, nI_clamp, up2_o, up2_s, up2_i, cpV_o, cpV_i]
            refine fs_callv (pc2 := 122) rfl rfl rfl rfl ⟨rfl, rfl⟩ (Nat.le_of_ble_eq_true rfl) (Nat.le_of_ble_eq_true rfl) (Nat.le_of_ble_eq_true rfl) (fs_rcv rfl (by assumption)) (m_hand (H := H) (k := 3) hm (hX.kept (by simp (disch := omega) only [up2_o])) (by omega) (by decide)) (fun v9 sh9 V9 n9 hp9 => ?_)
            obtain ⟨ea9, eb9, ec9, hv9⟩ := hp9
            cases ea9
            obtain rfl := eb9.symm
            obtain rfl := ec9.symm
            cases hv9
            try simp (disch := omega) only [nI_lit, pk_mul, nI_add, pk_sub, pk_rem4, nI_clamp, up2_o, up2_s, up2_i, cpV_o, cpV_i]
            refine fs_iast (pc2 := 123) rfl rfl rfl (by assumption) (vp_in_nI (by omega) (by decide)) ?_
            try simp (disch := omega) only [nI_lit, pk_mul, nI_add, pk_sub, pk_rem4, nI_clamp, up2_o, up2_s, up2_i, cpV_o, cpV_i]
            refine fs_ret rfl rfl ?_
            have ea : ho_ans1 H k = hoC H k (ch_open (H.2.1 k) (tl H 0) (tl H 1) (tl H 2) (tl H 3)) := by unfold ho_ans1; rw [if_pos (by omega)]
            rw [ea] at hP
            refine hP _ _ _ _ ⟨rfl, rfl, rfl, hM.pC hh hk ((((((FM.refl.up (j := 6) (by simp [own])).up (j := 22) (by simp [own])).up (j := 10) (by simp [own])).up (j := 11) (by simp [own])).up (j := 12) (by simp [own])).up (j := 13) (by simp [own])) ?_, (((((KP.refl.up (by decide)).up (by decide)).up (by decide)).up (by decide)).up (by decide)).up (by decide)⟩
            refine ((((((hC1.pI (1, 6) (by decide) (by decide)).pR0).pI (6, 10) (by decide) l0).pI (7, 11) (by decide) l1).pI (8, 12) (by decide) l2).pI (9, 13) (by decide) l3).ext (fun q hq => ?_) ?_
            · rfl
            · show (H.2.1 k).2 = ((H.2.1 k).2.1, (H.2.1 k).2.2.1, [], (H.2.1 k).2.2.2.2)
              rw [← hrx]
          · exact absurd h53 (by decide)
set_option maxRecDepth 100000 in
set_option maxHeartbeats 4000000 in
theorem m_credit (hm : isMo sh mb) (hM : Mo V mb T S (va_up HH h (hoG H []))) (hh : h < 2) (hX : HD V mb (H.2.2.2.2.2.2.drop 4)) (hl : 12 ≤ H.2.2.2.2.2.2.length) (hT : ∀ i, i < 2 → T i < 2048) : fl_M cy z0 ext (d + 3) m_X7_credit [.ref (z0 + mb), .int (nI h)] sh V n (fun v sh' V' n' => v = none ∧ sh' = sh ∧ n' = n ∧ Mo V' mb (fun i => T i + 1) S (va_up HH h (hoG (ho_cred H) [])) ∧ KP mb V V') := by
  have m0 := hm.1
  have a6 : sh (mb + 6) = some (.inl (1, 8, none)) := hm.2 5 (1, 8) rfl
  have a10 : sh (mb + 10) = some (.inl (1, 8, none)) := hm.2 9 (1, 8) rfl
  have a13 : sh (mb + 13) = some (.inl (1, 8, none)) := hm.2 12 (1, 8) rfl
  have l0 := tl_lt2 (H := H) hX (k := 0) (by decide)
  have l1 := tl_lt2 (H := H) hX (k := 1) (by decide)
  have hMm := hM.mono (T' := fun i => T i + 1) (fun i hi => ⟨by omega, hT i hi⟩)
  have hCC := fun i hi => (hM.host hh).2.2.2.2.2.2 i hi
  refine fs_body rfl rfl (fun Ret hP => ?_)
  have loop : ∀ j i, i + j = 4 → (∀ q, q < i → ((H.2.1 q).1 1 == 2 && (H.2.1 q).1 6 == tl H 0) = false) → fl_R cy z0 (ev_M cy ext (d + 2)) 7 0 0 4 none kc_X7_credit Ret 4 [(0, .ref (z0 + mb)), (1, .int (nI h)), (2, .int (nI (4 * h + i)))] [] sh V n 0 0 := by
    intro j
    induction j with
    | zero =>
      intro i hi hn
      have hi2 : i = 4 := by omega
      subst hi2
      have ec : ho_cred H = H := by unfold ho_cred; rw [first4_none hn]
      rw [ec] at hP
      refine fs_iload_n (pc2 := 5) rfl rfl rfl rfl ?_
      refine fs_iconst (pc2 := 6) rfl rfl rfl ?_
      refine fs_iload_n (pc2 := 7) rfl rfl rfl rfl ?_
      refine fs_imul (pc2 := 8) rfl rfl rfl ?_
      refine fs_iconst (pc2 := 9) rfl rfl rfl ?_
      refine fs_iadd (pc2 := 10) rfl rfl rfl ?_
      try simp (disch := omega) only [nI_lit, pk_mul, nI_add, pk_sub, pk_rem4, nI_clamp, up2_o, up2_s, up2_i, cpV_o, cpV_i]
      refine fs_icmp_ge (pc2 := 13) rfl rfl rfl (fun h10 => ?_) (fun h10 => ?_)
      · try simp (disch := omega) only [nI_lit, pk_mul, nI_add, pk_sub, pk_rem4, nI_clamp, up2_o, up2_s, up2_i, cpV_o, cpV_i]
        refine fs_ret rfl rfl ?_
        exact hP _ _ _ _ ⟨rfl, rfl, rfl, hMm, KP.refl⟩
      · have := c_lt (a := 4 * h + 4) (b := 4 * h + 4) h10 rfl rfl
        omega
    | succ j ih =>
      intro i hi hn
      have hC1 := hCC i (by omega)
      obtain ⟨e6, l6⟩ := hC1.num (1, 6) (by decide)
      obtain ⟨e10, l10⟩ := hC1.num (6, 10) (by decide)
      obtain ⟨e13, l13⟩ := hC1.num (9, 13) (by decide)
      dsimp only at e6 l6 e10 l10 e13 l13
      have yes : (H.2.1 i).1 1 = 2 → (H.2.1 i).1 6 = tl H 0 → ho_cred H = ho_cred1 H i := fun q1 q2 => by
        unfold ho_cred
        rw [first4_some (p := (fun j => (H.2.1 j).1 1 == 2 && (H.2.1 j).1 6 == tl H 0)) (i := i) (by omega) (by simp [q1, q2]) hn]
      have no : ((H.2.1 i).1 1 == 2 && (H.2.1 i).1 6 == tl H 0) = false → ∀ q, q < i + 1 → ((H.2.1 q).1 1 == 2 && (H.2.1 q).1 6 == tl H 0) = false := by
        intro hf q hq
        by_cases z : q = i
        · subst z; exact hf
        · exact hn q (by omega)
      refine fs_iload_n (pc2 := 5) rfl rfl rfl rfl ?_
      refine fs_iconst (pc2 := 6) rfl rfl rfl ?_
      refine fs_iload_n (pc2 := 7) rfl rfl rfl rfl ?_
      refine fs_imul (pc2 := 8) rfl rfl rfl ?_
      refine fs_iconst (pc2 := 9) rfl rfl rfl ?_
      refine fs_iadd (pc2 := 10) rfl rfl rfl ?_
      try simp (disch := omega) only [nI_lit, pk_mul, nI_add, pk_sub, pk_rem4, nI_clamp, up2_o, up2_s, up2_i, cpV_o, cpV_i, e6, e10, e13]
      refine fs_icmp_ge (pc2 := 13) rfl rfl rfl (fun h10 => ?_) (fun h10 => ?_)
      · have := c_nlt (a := 4 * h + i) (b := 4 * h + 4) h10 rfl rfl
        omega
      · refine fs_aload_n (pc2 := 14) rfl rfl rfl rfl ?_
        refine fs_getr (pc2 := 17) rfl rfl rfl (by assumption) rfl ?_
        refine fs_iload_n (pc2 := 18) rfl rfl rfl rfl ?_
        try simp (disch := omega) only [nI_lit, pk_mul, nI_add, pk_sub, pk_rem4, nI_clamp, up2_o, up2_s, up2_i, cpV_o, cpV_i, e6, e10, e13]
        refine fs_iald (pc2 := 19) rfl rfl rfl (by assumption) (vp_in_nI (by omega) (by decide)) ?_
        refine fs_iconst (pc2 := 20) rfl rfl rfl ?_
        try simp (disch := omega) only [nI_lit, pk_mul, nI_add, pk_sub, pk_rem4, nI_clamp, up2_o, up2_s, up2_i, cpV_o, cpV_i, e6, e10, e13]
        refine fs_icmp_ne (pc2 := 23) rfl rfl rfl (fun h20 => ?_) (fun h20 => ?_)
        · have k20 : (H.2.1 i).1 1 ≠ 2 := c_ne (b := 2) h20 rfl rfl
          refine fs_iinc (pc2 := 88) rfl rfl rfl (Nat.le_of_ble_eq_true rfl) rfl ?_
          refine fs_goto rfl rfl ?_
          try simp (disch := omega) only [nI_lit, pk_mul, nI_add, pk_sub, pk_rem4, nI_clamp, up2_o, up2_s, up2_i, cpV_o, cpV_i]
          exact ih (i + 1) (by omega) (no (by simp [k20]))
        · have k20 : (H.2.1 i).1 1 = 2 := c_eq (b := 2) h20 rfl rfl
          refine fs_aload_n (pc2 := 24) rfl rfl rfl rfl ?_
          refine fs_getr (pc2 := 27) rfl rfl rfl (by assumption) rfl ?_
          refine fs_iload_n (pc2 := 28) rfl rfl rfl rfl ?_
          try simp (disch := omega) only [nI_lit, pk_mul, nI_add, pk_sub, pk_rem4, nI_clamp, up2_o, up2_s, up2_i, cpV_o, cpV_i, e6, e10, e13]
          refine fs_iald (pc2 := 29) rfl rfl rfl (by assumption) (vp_in_nI (by omega) (by decide)) ?_
          refine fs_aload_n (pc2 := 30) rfl rfl rfl rfl ?_
          refine fs_iconst (pc2 := 31) rfl rfl rfl ?_
          try simp (disch := omega) only [nI_lit, pk_mul, nI_add, pk_sub, pk_rem4, nI_clamp, up2_o, up2_s, up2_i, cpV_o, cpV_i, e6, e10, e13]
          refine fs_callv (pc2 := 34) rfl rfl rfl rfl ⟨rfl, rfl⟩ (Nat.le_of_ble_eq_true rfl) (Nat.le_of_ble_eq_true rfl) (Nat.le_of_ble_eq_true rfl) (fs_rcv rfl (by assumption)) (m_hand (H := H) (k := 0) hm hX (by omega) (by decide)) (fun v9 sh9 V9 n9 hp9 => ?_)
          obtain ⟨ea9, eb9, ec9, hv9⟩ := hp9
          cases ea9
          obtain rfl := eb9.symm
          obtain rfl := ec9.symm
          cases hv9
          try simp (disch := omega) only [nI_lit, pk_mul, nI_add, pk_sub, pk_rem4, nI_clamp, up2_o, up2_s, up2_i, cpV_o, cpV_i, e6, e10, e13]
          refine fs_icmp_ne (pc2 := 37) rfl rfl rfl (fun h34 => ?_) (fun h34 => ?_)
          · have k34 : (H.2.1 i).1 6 ≠ tl H 0 := c_ne h34 rfl rfl
            refine fs_iinc (pc2 := 88) rfl rfl rfl (Nat.le_of_ble_eq_true rfl) rfl ?_
            refine fs_goto rfl rfl ?_
            try simp (disch := omega) only [nI_lit, pk_mul, nI_add, pk_sub, pk_rem4, nI_clamp, up2_o, up2_s, up2_i, cpV_o, cpV_i]
            exact ih (i + 1) (by omega) (no (by simp [k20, k34]))
          · have k34 : (H.2.1 i).1 6 = tl H 0 := c_eq h34 rfl rfl
            rw [yes k20 k34] at hP
            refine fs_aload_n (pc2 := 38) rfl rfl rfl rfl ?_
            refine fs_bipush (pc2 := 40) rfl rfl rfl ?_
            try simp (disch := omega) only [nI_lit, pk_mul, nI_add, pk_sub, pk_rem4, nI_clamp, up2_o, up2_s, up2_i, cpV_o, cpV_i, e6, e10, e13]
            refine fs_callv (pc2 := 43) rfl rfl rfl rfl ⟨rfl, rfl⟩ (Nat.le_of_ble_eq_true rfl) (Nat.le_of_ble_eq_true rfl) (Nat.le_of_ble_eq_true rfl) (fs_rcv rfl (by assumption)) (m_hand (H := H) (k := 1) hm hX (by omega) (by decide)) (fun v9 sh9 V9 n9 hp9 => ?_)
            obtain ⟨ea9, eb9, ec9, hv9⟩ := hp9
            cases ea9
            obtain rfl := eb9.symm
            obtain rfl := ec9.symm
            cases hv9
            refine fs_istore_n (pc2 := 44) rfl rfl rfl (Nat.le_of_ble_eq_true rfl) ?_
            refine fs_iload_n (pc2 := 45) rfl rfl rfl rfl ?_
            try simp (disch := omega) only [nI_lit, pk_mul, nI_add, pk_sub, pk_rem4, nI_clamp, up2_o, up2_s, up2_i, cpV_o, cpV_i, e6, e10, e13]
            refine fs_if_eq (pc2 := 48) rfl rfl rfl (fun h45 => ?_) (fun h45 => ?_)
            · have k45 : tl H 1 = 0 := c_eq (b := 0) h45 rfl rfl
              have e1 : ho_cred1 H i = ho_leave H i := by unfold ho_cred1; rw [if_pos (Or.inl k45)]
              rw [e1] at hP
              refine fs_aload_n (pc2 := 62) rfl rfl rfl rfl ?_
              refine fs_iload_n (pc2 := 63) rfl rfl rfl rfl ?_
              refine fs_iload_n (pc2 := 64) rfl rfl rfl rfl ?_
              try simp (disch := omega) only [nI_lit, pk_mul, nI_add, pk_sub, pk_rem4, nI_clamp, up2_o, up2_s, up2_i, cpV_o, cpV_i, e6, e10, e13]
              refine fs_callv (pc2 := 67) rfl rfl rfl rfl ⟨rfl, rfl⟩ (Nat.le_of_ble_eq_true rfl) (Nat.le_of_ble_eq_true rfl) (Nat.le_of_ble_eq_true rfl) (fs_rcv rfl (by assumption)) (m_leaveNow hm hM hh (by omega) hT) (fun v9 sh9 V9 n9 hp9 => ?_)
              obtain ⟨ea9, eb9, ec9, hM2, kp2⟩ := hp9
              cases ea9
              obtain rfl := eb9.symm
              obtain rfl := ec9.symm
              refine fs_goto rfl rfl ?_
              try simp (disch := omega) only [nI_lit, pk_mul, nI_add, pk_sub, pk_rem4, nI_clamp, up2_o, up2_s, up2_i, cpV_o, cpV_i, e6, e10, e13]
              refine fs_ret rfl rfl ?_
              exact hP _ _ _ _ ⟨rfl, rfl, rfl, hM2, kp2⟩
            · have k45 : tl H 1 ≠ 0 := c_ne (b := 0) h45 rfl rfl
              refine fs_aload_n (pc2 := 49) rfl rfl rfl rfl ?_
              refine fs_getr (pc2 := 52) rfl rfl rfl (by assumption) rfl ?_
              refine fs_iload_n (pc2 := 53) rfl rfl rfl rfl ?_
              try simp (disch := omega) only [nI_lit, pk_mul, nI_add, pk_sub, pk_rem4, nI_clamp, up2_o, up2_s, up2_i, cpV_o, cpV_i, e6, e10, e13]
              refine fs_iald (pc2 := 54) rfl rfl rfl (by assumption) (vp_in_nI (by omega) (by decide)) ?_
              refine fs_iload_n (pc2 := 55) rfl rfl rfl rfl ?_
              refine fs_iadd (pc2 := 56) rfl rfl rfl ?_
              refine fs_ldc (pc2 := 58) rfl rfl rfl ?_
              try simp (disch := omega) only [nI_lit, pk_mul, nI_add, pk_sub, pk_rem4, nI_clamp, up2_o, up2_s, up2_i, cpV_o, cpV_i, e6, e10, e13]
              refine fs_icmp_le (pc2 := 61) rfl rfl rfl (fun h58 => ?_) (fun h58 => ?_)
              · have k58 : (H.2.1 i).1 9 + tl H 1 ≤ 65535 := c_le (b := 65535) h58 rfl rfl
                have e1 : ho_cred1 H i = hoC H i (va_up (H.2.1 i).1 9 ((H.2.1 i).1 9 + tl H 1), (H.2.1 i).2) := by unfold ho_cred1; rw [if_neg (by omega)]
                rw [e1] at hP
                refine fs_aload_n (pc2 := 71) rfl rfl rfl rfl ?_
                refine fs_getr (pc2 := 74) rfl rfl rfl (by assumption) rfl ?_
                refine fs_iload_n (pc2 := 75) rfl rfl rfl rfl ?_
                refine fs_aload_n (pc2 := 76) rfl rfl rfl rfl ?_
                refine fs_getr (pc2 := 79) rfl rfl rfl (by assumption) rfl ?_
                refine fs_iload_n (pc2 := 80) rfl rfl rfl rfl ?_
                try simp (disch := omega) only [nI_lit, pk_mul, nI_add, pk_sub, pk_rem4, nI_clamp, up2_o, up2_s, up2_i, cpV_o, cpV_i, e6, e10, e13]
                refine fs_iald (pc2 := 81) rfl rfl rfl (by assumption) (vp_in_nI (by omega) (by decide)) ?_
                refine fs_iload_n (pc2 := 82) rfl rfl rfl rfl ?_
                refine fs_iadd (pc2 := 83) rfl rfl rfl ?_
                try simp (disch := omega) only [nI_lit, pk_mul, nI_add, pk_sub, pk_rem4, nI_clamp, up2_o, up2_s, up2_i, cpV_o, cpV_i, e6, e10, e13]
                refine fs_iast (pc2 := 84) rfl rfl rfl (by assumption) (vp_in_nI (by omega) (by decide)) ?_
                try simp (disch := omega) only [nI_lit, pk_mul, nI_add, pk_sub, pk_rem4, nI_clamp, up2_o, up2_s, up2_i, cpV_o, cpV_i, e6, e10, e13]
                refine fs_ret rfl rfl ?_
                exact hP _ _ _ _ ⟨rfl, rfl, rfl, hMm.pC hh (by omega) (FM.refl.up (j := 13) (by simp [own])) (hC1.pI (9, 13) (by decide) (by omega)), KP.refl.up (by decide)⟩
              · have k58 : 65535 < (H.2.1 i).1 9 + tl H 1 := c_nle (b := 65535) h58 rfl rfl
                have e1 : ho_cred1 H i = ho_leave H i := by unfold ho_cred1; rw [if_pos (Or.inr k58)]
                rw [e1] at hP
                refine fs_aload_n (pc2 := 62) rfl rfl rfl rfl ?_
                refine fs_iload_n (pc2 := 63) rfl rfl rfl rfl ?_
                refine fs_iload_n (pc2 := 64) rfl rfl rfl rfl ?_
                try simp (disch := omega) only [nI_lit, pk_mul, nI_add, pk_sub, pk_rem4, nI_clamp, up2_o, up2_s, up2_i, cpV_o, cpV_i, e6, e10, e13]
                refine fs_callv (pc2 := 67) rfl rfl rfl rfl ⟨rfl, rfl⟩ (Nat.le_of_ble_eq_true rfl) (Nat.le_of_ble_eq_true rfl) (Nat.le_of_ble_eq_true rfl) (fs_rcv rfl (by assumption)) (m_leaveNow hm hM hh (by omega) hT) (fun v9 sh9 V9 n9 hp9 => ?_)
                obtain ⟨ea9, eb9, ec9, hM2, kp2⟩ := hp9
                cases ea9
                obtain rfl := eb9.symm
                obtain rfl := ec9.symm
                refine fs_goto rfl rfl ?_
                try simp (disch := omega) only [nI_lit, pk_mul, nI_add, pk_sub, pk_rem4, nI_clamp, up2_o, up2_s, up2_i, cpV_o, cpV_i, e6, e10, e13]
                refine fs_ret rfl rfl ?_
                exact hP _ _ _ _ ⟨rfl, rfl, rfl, hM2, kp2⟩
  refine fs_iconst (pc2 := 1) rfl rfl rfl ?_
  refine fs_iload_n (pc2 := 2) rfl rfl rfl rfl ?_
  refine fs_imul (pc2 := 3) rfl rfl rfl ?_
  refine fs_istore_n (pc2 := 4) rfl rfl rfl (Nat.le_of_ble_eq_true rfl) ?_
  try simp (disch := omega) only [nI_lit, pk_mul, nI_add, pk_sub, pk_rem4, nI_clamp, up2_o, up2_s, up2_i, cpV_o, cpV_i]
  exact loop 4 0 (by omega) (fun q hq => by omega)
set_option maxRecDepth 100000 in
set_option maxHeartbeats 4000000 in
theorem m_byId21 (hm : isMo sh mb) (hM : Mo V mb T S (va_up HH h (hoG H []))) (hh : h < 2) (hX : HD V mb (H.2.2.2.2.2.2.drop 4)) {sid : Nat} (hl : 18 ≤ H.2.2.2.2.2.2.length) (hrx : ∀ k, k < 4 → (H.2.1 k).1 1 = 1 → (H.2.1 k).2.2.2.1 = []) (hid : sid < 256) : fl_M cy z0 ext (d + 4) m_X7_byId [.ref (z0 + mb), .int (nI h), .int (nI sid), .int (nI 21)] sh V n (fun v sh' V' n' => v = none ∧ sh' = sh ∧ n' = n ∧ Mo V' mb T S (va_up HH h (hoG (ho_ans H sid) [])) ∧ KP mb V V') := by
  have m0 := hm.1
  have a6 : sh (mb + 6) = some (.inl (1, 8, none)) := hm.2 5 (1, 8) rfl
  have a14 : sh (mb + 14) = some (.inl (1, 8, none)) := hm.2 13 (1, 8) rfl
  have hCC := fun i hi => (hM.host hh).2.2.2.2.2.2 i hi
  refine fs_body rfl rfl (fun Ret hP => ?_)
  have loop : ∀ j i, i + j = 4 → (∀ q, q < i → (((H.2.1 q).1 1 == 1 || (false && (H.2.1 q).1 1 == 3)) && (H.2.1 q).1 2 == sid) = false) → fl_R cy z0 (ev_M cy ext (d + 3)) 7 0 0 5 none kc_X7_byId Ret 5 [(0, .ref (z0 + mb)), (1, .int (nI h)), (2, .int (nI sid)), (3, .int (nI 21)), (4, .int (nI (4 * h + i)))] [] sh V n 0 0 := by
    intro j
    induction j with
    | zero =>
      intro i hi hn
      have hi2 : i = 4 := by omega
      subst hi2
      have ec : ho_ans H sid = H := by unfold ho_ans ho_by; rw [first4_none hn]
      rw [ec] at hP
      refine fs_iload (pc2 := 7) rfl rfl rfl rfl ?_
      refine fs_iconst (pc2 := 8) rfl rfl rfl ?_
      refine fs_iload_n (pc2 := 9) rfl rfl rfl rfl ?_
      refine fs_imul (pc2 := 10) rfl rfl rfl ?_
      refine fs_iconst (pc2 := 11) rfl rfl rfl ?_
      refine fs_iadd (pc2 := 12) rfl rfl rfl ?_
      try simp (disch := omega) only [nI_lit, pk_mul, nI_add, pk_sub, pk_rem4, nI_clamp, up2_o, up2_s, up2_i, cpV_o, cpV_i]
      refine fs_icmp_ge (pc2 := 15) rfl rfl rfl (fun h12 => ?_) (fun h12 => ?_)
      · try simp (disch := omega) only [nI_lit, pk_mul, nI_add, pk_sub, pk_rem4, nI_clamp, up2_o, up2_s, up2_i, cpV_o, cpV_i]
        refine fs_ret rfl rfl ?_
        exact hP _ _ _ _ ⟨rfl, rfl, rfl, hM, KP.refl⟩
      · have := c_lt (a := 4 * h + 4) (b := 4 * h + 4) h12 rfl rfl
        omega
    | succ j ih =>
      intro i hi hn
      have hC1 := hCC i (by omega)
      obtain ⟨e6, l6⟩ := hC1.num (1, 6) (by decide)
      obtain ⟨e14, l14⟩ := hC1.num (2, 14) (by decide)
      dsimp only at e6 l6 e14 l14
      have yes : (((H.2.1 i).1 1 == 1 || (false && (H.2.1 i).1 1 == 3)) && (H.2.1 i).1 2 == sid) = true → ho_ans H sid = ho_ans1 H i := fun q => by
        unfold ho_ans ho_by
        rw [first4_some (p := fun j => (((H.2.1 j).1 1 == 1 || (false && (H.2.1 j).1 1 == 3)) && (H.2.1 j).1 2 == sid)) (i := i) (by omega) q hn]
      have no : (((H.2.1 i).1 1 == 1 || (false && (H.2.1 i).1 1 == 3)) && (H.2.1 i).1 2 == sid) = false → ∀ q, q < i + 1 → (((H.2.1 q).1 1 == 1 || (false && (H.2.1 q).1 1 == 3)) && (H.2.1 q).1 2 == sid) = false := by
        intro hf q hq
        by_cases z : q = i
        · subst z; exact hf
        · exact hn q (by omega)
      refine fs_iload (pc2 := 7) rfl rfl rfl rfl ?_
      refine fs_iconst (pc2 := 8) rfl rfl rfl ?_
      refine fs_iload_n (pc2 := 9) rfl rfl rfl rfl ?_
      refine fs_imul (pc2 := 10) rfl rfl rfl ?_
      refine fs_iconst (pc2 := 11) rfl rfl rfl ?_
      refine fs_iadd (pc2 := 12) rfl rfl rfl ?_
      try simp (disch := omega) only [nI_lit, pk_mul, nI_add, pk_sub, pk_rem4, nI_clamp, up2_o, up2_s, up2_i, cpV_o, cpV_i, e6, e14]
      refine fs_icmp_ge (pc2 := 15) rfl rfl rfl (fun h12 => ?_) (fun h12 => ?_)
      · have := c_nlt (a := 4 * h + i) (b := 4 * h + 4) h12 rfl rfl
        omega
      · refine fs_aload_n (pc2 := 16) rfl rfl rfl rfl ?_
        refine fs_getr (pc2 := 19) rfl rfl rfl (by assumption) rfl ?_
        refine fs_iload (pc2 := 21) rfl rfl rfl rfl ?_
        try simp (disch := omega) only [nI_lit, pk_mul, nI_add, pk_sub, pk_rem4, nI_clamp, up2_o, up2_s, up2_i, cpV_o, cpV_i, e6, e14]
        refine fs_iald (pc2 := 22) rfl rfl rfl (by assumption) (vp_in_nI (by omega) (by decide)) ?_
        refine fs_iload_n (pc2 := 23) rfl rfl rfl rfl ?_
        try simp (disch := omega) only [nI_lit, pk_mul, nI_add, pk_sub, pk_rem4, nI_clamp, up2_o, up2_s, up2_i, cpV_o, cpV_i, e6, e14]
        refine fs_icmp_ne (pc2 := 26) rfl rfl rfl (fun h23 => ?_) (fun h23 => ?_)
        · have k23 : (H.2.1 i).1 2 ≠ sid := c_ne h23 rfl rfl
          refine fs_aload_n (pc2 := 51) rfl rfl rfl rfl ?_
          refine fs_getr (pc2 := 54) rfl rfl rfl (by assumption) rfl ?_
          refine fs_iload (pc2 := 56) rfl rfl rfl rfl ?_
          try simp (disch := omega) only [nI_lit, pk_mul, nI_add, pk_sub, pk_rem4, nI_clamp, up2_o, up2_s, up2_i, cpV_o, cpV_i, e6, e14]
          refine fs_iald (pc2 := 57) rfl rfl rfl (by assumption) (vp_in_nI (by omega) (by decide)) ?_
          refine fs_iload_n (pc2 := 58) rfl rfl rfl rfl ?_
          try simp (disch := omega) only [nI_lit, pk_mul, nI_add, pk_sub, pk_rem4, nI_clamp, up2_o, up2_s, up2_i, cpV_o, cpV_i, e6, e14]
          refine fs_icmp_ne (pc2 := 61) rfl rfl rfl (fun h58 => ?_) (fun h58 => ?_)
          · have k58 : (H.2.1 i).1 2 ≠ sid := c_ne h58 rfl rfl
            refine fs_iinc (pc2 := 98) rfl rfl rfl (Nat.le_of_ble_eq_true rfl) rfl ?_
            refine fs_goto rfl rfl ?_
            try simp (disch := omega) only [nI_lit, pk_mul, nI_add, pk_sub, pk_rem4, nI_clamp, up2_o, up2_s, up2_i, cpV_o, cpV_i]
            exact ih (i + 1) (by omega) (no (by simp [k23, k58]))
          · have k58 : (H.2.1 i).1 2 = sid := c_eq h58 rfl rfl
            exact absurd k58 k23
        · have k23 : (H.2.1 i).1 2 = sid := c_eq h23 rfl rfl
          refine fs_aload_n (pc2 := 27) rfl rfl rfl rfl ?_
          refine fs_getr (pc2 := 30) rfl rfl rfl (by assumption) rfl ?_
          refine fs_iload (pc2 := 32) rfl rfl rfl rfl ?_
          try simp (disch := omega) only [nI_lit, pk_mul, nI_add, pk_sub, pk_rem4, nI_clamp, up2_o, up2_s, up2_i, cpV_o, cpV_i, e6, e14]
          refine fs_iald (pc2 := 33) rfl rfl rfl (by assumption) (vp_in_nI (by omega) (by decide)) ?_
          refine fs_iconst (pc2 := 34) rfl rfl rfl ?_
          try simp (disch := omega) only [nI_lit, pk_mul, nI_add, pk_sub, pk_rem4, nI_clamp, up2_o, up2_s, up2_i, cpV_o, cpV_i, e6, e14]
          refine fs_icmp_ne (pc2 := 37) rfl rfl rfl (fun h34 => ?_) (fun h34 => ?_)
          · have k34 : (H.2.1 i).1 1 ≠ 1 := c_ne (b := 1) h34 rfl rfl
            refine fs_aload_n (pc2 := 51) rfl rfl rfl rfl ?_
            refine fs_getr (pc2 := 54) rfl rfl rfl (by assumption) rfl ?_
            refine fs_iload (pc2 := 56) rfl rfl rfl rfl ?_
            try simp (disch := omega) only [nI_lit, pk_mul, nI_add, pk_sub, pk_rem4, nI_clamp, up2_o, up2_s, up2_i, cpV_o, cpV_i, e6, e14]
            refine fs_iald (pc2 := 57) rfl rfl rfl (by assumption) (vp_in_nI (by omega) (by decide)) ?_
            refine fs_iload_n (pc2 := 58) rfl rfl rfl rfl ?_
            try simp (disch := omega) only [nI_lit, pk_mul, nI_add, pk_sub, pk_rem4, nI_clamp, up2_o, up2_s, up2_i, cpV_o, cpV_i, e6, e14]
            refine fs_icmp_ne (pc2 := 61) rfl rfl rfl (fun h58 => ?_) (fun h58 => ?_)
            · have k58 : (H.2.1 i).1 2 ≠ sid := c_ne h58 rfl rfl
              exact absurd k23 k58
            · have k58 : (H.2.1 i).1 2 = sid := c_eq h58 rfl rfl
              refine fs_aload_n (pc2 := 62) rfl rfl rfl rfl ?_
              refine fs_getr (pc2 := 65) rfl rfl rfl (by assumption) rfl ?_
              refine fs_iload (pc2 := 67) rfl rfl rfl rfl ?_
              try simp (disch := omega) only [nI_lit, pk_mul, nI_add, pk_sub, pk_rem4, nI_clamp, up2_o, up2_s, up2_i, cpV_o, cpV_i, e6, e14]
              refine fs_iald (pc2 := 68) rfl rfl rfl (by assumption) (vp_in_nI (by omega) (by decide)) ?_
              refine fs_iconst (pc2 := 69) rfl rfl rfl ?_
              try simp (disch := omega) only [nI_lit, pk_mul, nI_add, pk_sub, pk_rem4, nI_clamp, up2_o, up2_s, up2_i, cpV_o, cpV_i, e6, e14]
              refine fs_icmp_eq (pc2 := 72) rfl rfl rfl (fun h69 => ?_) (fun h69 => ?_)
              · have k69 : (H.2.1 i).1 1 = 1 := c_eq (b := 1) h69 rfl rfl
                exact absurd k69 k34
              · have k69 : (H.2.1 i).1 1 ≠ 1 := c_ne (b := 1) h69 rfl rfl
                refine fs_aload_n (pc2 := 73) rfl rfl rfl rfl ?_
                refine fs_getr (pc2 := 76) rfl rfl rfl (by assumption) rfl ?_
                refine fs_iload (pc2 := 78) rfl rfl rfl rfl ?_
                try simp (disch := omega) only [nI_lit, pk_mul, nI_add, pk_sub, pk_rem4, nI_clamp, up2_o, up2_s, up2_i, cpV_o, cpV_i, e6, e14]
                refine fs_iald (pc2 := 79) rfl rfl rfl (by assumption) (vp_in_nI (by omega) (by decide)) ?_
                refine fs_iconst (pc2 := 80) rfl rfl rfl ?_
                try simp (disch := omega) only [nI_lit, pk_mul, nI_add, pk_sub, pk_rem4, nI_clamp, up2_o, up2_s, up2_i, cpV_o, cpV_i, e6, e14]
                refine fs_icmp_ne (pc2 := 83) rfl rfl rfl (fun h80 => ?_) (fun h80 => ?_)
                · have k80 : (H.2.1 i).1 1 ≠ 3 := c_ne (b := 3) h80 rfl rfl
                  refine fs_iinc (pc2 := 98) rfl rfl rfl (Nat.le_of_ble_eq_true rfl) rfl ?_
                  refine fs_goto rfl rfl ?_
                  try simp (disch := omega) only [nI_lit, pk_mul, nI_add, pk_sub, pk_rem4, nI_clamp, up2_o, up2_s, up2_i, cpV_o, cpV_i]
                  exact ih (i + 1) (by omega) (no (by simp [k23, k34, k58, k69, k80]))
                · have k80 : (H.2.1 i).1 1 = 3 := c_eq (b := 3) h80 rfl rfl
                  refine fs_iload_n (pc2 := 84) rfl rfl rfl rfl ?_
                  refine fs_iconst (pc2 := 85) rfl rfl rfl ?_
                  try simp (disch := omega) only [nI_lit, pk_mul, nI_add, pk_sub, pk_rem4, nI_clamp, up2_o, up2_s, up2_i, cpV_o, cpV_i, e6, e14]
                  refine fs_icmp_ne (pc2 := 88) rfl rfl rfl (fun h85 => ?_) (fun h85 => ?_)
                  · refine fs_iinc (pc2 := 98) rfl rfl rfl (Nat.le_of_ble_eq_true rfl) rfl ?_
                    refine fs_goto rfl rfl ?_
                    try simp (disch := omega) only [nI_lit, pk_mul, nI_add, pk_sub, pk_rem4, nI_clamp, up2_o, up2_s, up2_i, cpV_o, cpV_i]
                    exact ih (i + 1) (by omega) (no (by simp [k23, k34, k58, k69, k80]))
                  · exact absurd h85 (by decide)
          · have k34 : (H.2.1 i).1 1 = 1 := c_eq (b := 1) h34 rfl rfl
            refine fs_iload_n (pc2 := 38) rfl rfl rfl rfl ?_
            refine fs_bipush (pc2 := 40) rfl rfl rfl ?_
            try simp (disch := omega) only [nI_lit, pk_mul, nI_add, pk_sub, pk_rem4, nI_clamp, up2_o, up2_s, up2_i, cpV_o, cpV_i, e6, e14]
            refine fs_icmp_ne (pc2 := 43) rfl rfl rfl (fun h40 => ?_) (fun h40 => ?_)
            · exact absurd rfl h40
            · refine fs_aload_n (pc2 := 44) rfl rfl rfl rfl ?_
              refine fs_iload (pc2 := 46) rfl rfl rfl rfl ?_
              try simp (disch := omega) only [nI_lit, pk_mul, nI_add, pk_sub, pk_rem4, nI_clamp, up2_o, up2_s, up2_i, cpV_o, cpV_i, e6, e14]
              refine fs_callv (pc2 := 49) rfl rfl rfl rfl ⟨rfl, rfl⟩ (Nat.le_of_ble_eq_true rfl) (Nat.le_of_ble_eq_true rfl) (Nat.le_of_ble_eq_true rfl) (fs_rcv rfl (by assumption)) (m_response hm hM hh hX (by omega) hl (hrx i (by omega) k34)) (fun v9 sh9 V9 n9 hp9 => ?_)
              obtain ⟨ea9, eb9, ec9, hM2, kp2⟩ := hp9
              cases ea9
              obtain rfl := eb9.symm
              obtain rfl := ec9.symm
              try simp (disch := omega) only [nI_lit, pk_mul, nI_add, pk_sub, pk_rem4, nI_clamp, up2_o, up2_s, up2_i, cpV_o, cpV_i, e6, e14]
              refine fs_ret rfl rfl ?_
              rw [yes (by simp [k23, k34])] at hP
              exact hP _ _ _ _ ⟨rfl, rfl, rfl, hM2, kp2⟩
  refine fs_iconst (pc2 := 1) rfl rfl rfl ?_
  refine fs_iload_n (pc2 := 2) rfl rfl rfl rfl ?_
  refine fs_imul (pc2 := 3) rfl rfl rfl ?_
  refine fs_istore (pc2 := 5) rfl rfl rfl (Nat.le_of_ble_eq_true rfl) ?_
  try simp (disch := omega) only [nI_lit, pk_mul, nI_add, pk_sub, pk_rem4, nI_clamp, up2_o, up2_s, up2_i, cpV_o, cpV_i]
  exact loop 4 0 (by omega) (fun q hq => by omega)
set_option maxRecDepth 100000 in
set_option maxHeartbeats 4000000 in
theorem m_byId1 (hm : isMo sh mb) (hM : Mo V mb T S (va_up HH h (hoG H []))) (hh : h < 2) {sid : Nat} (hid : sid < 256) : fl_M cy z0 ext (d + 4) m_X7_byId [.ref (z0 + mb), .int (nI h), .int (nI sid), .int (nI 1)] sh V n (fun v sh' V' n' => v = none ∧ sh' = sh ∧ n' = n ∧ Mo V' mb T S (va_up HH h (hoG (ho_rej H sid) [])) ∧ KP mb V V') := by
  have m0 := hm.1
  have a6 : sh (mb + 6) = some (.inl (1, 8, none)) := hm.2 5 (1, 8) rfl
  have a14 : sh (mb + 14) = some (.inl (1, 8, none)) := hm.2 13 (1, 8) rfl
  have hCC := fun i hi => (hM.host hh).2.2.2.2.2.2 i hi
  refine fs_body rfl rfl (fun Ret hP => ?_)
  have loop : ∀ j i, i + j = 4 → (∀ q, q < i → (((H.2.1 q).1 1 == 1 || (true && (H.2.1 q).1 1 == 3)) && (H.2.1 q).1 2 == sid) = false) → fl_R cy z0 (ev_M cy ext (d + 3)) 7 0 0 5 none kc_X7_byId Ret 5 [(0, .ref (z0 + mb)), (1, .int (nI h)), (2, .int (nI sid)), (3, .int (nI 1)), (4, .int (nI (4 * h + i)))] [] sh V n 0 0 := by
    intro j
    induction j with
    | zero =>
      intro i hi hn
      have hi2 : i = 4 := by omega
      subst hi2
      have ec : ho_rej H sid = H := by unfold ho_rej ho_by; rw [first4_none hn]
      rw [ec] at hP
      refine fs_iload (pc2 := 7) rfl rfl rfl rfl ?_
      refine fs_iconst (pc2 := 8) rfl rfl rfl ?_
      refine fs_iload_n (pc2 := 9) rfl rfl rfl rfl ?_
      refine fs_imul (pc2 := 10) rfl rfl rfl ?_
      refine fs_iconst (pc2 := 11) rfl rfl rfl ?_
      refine fs_iadd (pc2 := 12) rfl rfl rfl ?_
      try simp (disch := omega) only [nI_lit, pk_mul, nI_add, pk_sub, pk_rem4, nI_clamp, up2_o, up2_s, up2_i, cpV_o, cpV_i]
      refine fs_icmp_ge (pc2 := 15) rfl rfl rfl (fun h12 => ?_) (fun h12 => ?_)
      · try simp (disch := omega) only [nI_lit, pk_mul, nI_add, pk_sub, pk_rem4, nI_clamp, up2_o, up2_s, up2_i, cpV_o, cpV_i]
        refine fs_ret rfl rfl ?_
        exact hP _ _ _ _ ⟨rfl, rfl, rfl, hM, KP.refl⟩
      · have := c_lt (a := 4 * h + 4) (b := 4 * h + 4) h12 rfl rfl
        omega
    | succ j ih =>
      intro i hi hn
      have hC1 := hCC i (by omega)
      obtain ⟨e6, l6⟩ := hC1.num (1, 6) (by decide)
      obtain ⟨e14, l14⟩ := hC1.num (2, 14) (by decide)
      dsimp only at e6 l6 e14 l14
      have yes : (((H.2.1 i).1 1 == 1 || (true && (H.2.1 i).1 1 == 3)) && (H.2.1 i).1 2 == sid) = true → ho_rej H sid = hoC H i (ch_close (H.2.1 i)) := fun q => by
        unfold ho_rej ho_by
        rw [first4_some (p := fun j => (((H.2.1 j).1 1 == 1 || (true && (H.2.1 j).1 1 == 3)) && (H.2.1 j).1 2 == sid)) (i := i) (by omega) q hn]
      have no : (((H.2.1 i).1 1 == 1 || (true && (H.2.1 i).1 1 == 3)) && (H.2.1 i).1 2 == sid) = false → ∀ q, q < i + 1 → (((H.2.1 q).1 1 == 1 || (true && (H.2.1 q).1 1 == 3)) && (H.2.1 q).1 2 == sid) = false := by
        intro hf q hq
        by_cases z : q = i
        · subst z; exact hf
        · exact hn q (by omega)
      refine fs_iload (pc2 := 7) rfl rfl rfl rfl ?_
      refine fs_iconst (pc2 := 8) rfl rfl rfl ?_
      refine fs_iload_n (pc2 := 9) rfl rfl rfl rfl ?_
      refine fs_imul (pc2 := 10) rfl rfl rfl ?_
      refine fs_iconst (pc2 := 11) rfl rfl rfl ?_
      refine fs_iadd (pc2 := 12) rfl rfl rfl ?_
      try simp (disch := omega) only [nI_lit, pk_mul, nI_add, pk_sub, pk_rem4, nI_clamp, up2_o, up2_s, up2_i, cpV_o, cpV_i, e6, e14]
      refine fs_icmp_ge (pc2 := 15) rfl rfl rfl (fun h12 => ?_) (fun h12 => ?_)
      · have := c_nlt (a := 4 * h + i) (b := 4 * h + 4) h12 rfl rfl
        omega
      · refine fs_aload_n (pc2 := 16) rfl rfl rfl rfl ?_
        refine fs_getr (pc2 := 19) rfl rfl rfl (by assumption) rfl ?_
        refine fs_iload (pc2 := 21) rfl rfl rfl rfl ?_
        try simp (disch := omega) only [nI_lit, pk_mul, nI_add, pk_sub, pk_rem4, nI_clamp, up2_o, up2_s, up2_i, cpV_o, cpV_i, e6, e14]
        refine fs_iald (pc2 := 22) rfl rfl rfl (by assumption) (vp_in_nI (by omega) (by decide)) ?_
        refine fs_iload_n (pc2 := 23) rfl rfl rfl rfl ?_
        try simp (disch := omega) only [nI_lit, pk_mul, nI_add, pk_sub, pk_rem4, nI_clamp, up2_o, up2_s, up2_i, cpV_o, cpV_i, e6, e14]
        refine fs_icmp_ne (pc2 := 26) rfl rfl rfl (fun h23 => ?_) (fun h23 => ?_)
        · have k23 : (H.2.1 i).1 2 ≠ sid := c_ne h23 rfl rfl
          refine fs_aload_n (pc2 := 51) rfl rfl rfl rfl ?_
          refine fs_getr (pc2 := 54) rfl rfl rfl (by assumption) rfl ?_
          refine fs_iload (pc2 := 56) rfl rfl rfl rfl ?_
          try simp (disch := omega) only [nI_lit, pk_mul, nI_add, pk_sub, pk_rem4, nI_clamp, up2_o, up2_s, up2_i, cpV_o, cpV_i, e6, e14]
          refine fs_iald (pc2 := 57) rfl rfl rfl (by assumption) (vp_in_nI (by omega) (by decide)) ?_
          refine fs_iload_n (pc2 := 58) rfl rfl rfl rfl ?_
          try simp (disch := omega) only [nI_lit, pk_mul, nI_add, pk_sub, pk_rem4, nI_clamp, up2_o, up2_s, up2_i, cpV_o, cpV_i, e6, e14]
          refine fs_icmp_ne (pc2 := 61) rfl rfl rfl (fun h58 => ?_) (fun h58 => ?_)
          · have k58 : (H.2.1 i).1 2 ≠ sid := c_ne h58 rfl rfl
            refine fs_iinc (pc2 := 98) rfl rfl rfl (Nat.le_of_ble_eq_true rfl) rfl ?_
            refine fs_goto rfl rfl ?_
            try simp (disch := omega) only [nI_lit, pk_mul, nI_add, pk_sub, pk_rem4, nI_clamp, up2_o, up2_s, up2_i, cpV_o, cpV_i]
            exact ih (i + 1) (by omega) (no (by simp [k23, k58]))
          · have k58 : (H.2.1 i).1 2 = sid := c_eq h58 rfl rfl
            exact absurd k58 k23
        · have k23 : (H.2.1 i).1 2 = sid := c_eq h23 rfl rfl
          refine fs_aload_n (pc2 := 27) rfl rfl rfl rfl ?_
          refine fs_getr (pc2 := 30) rfl rfl rfl (by assumption) rfl ?_
          refine fs_iload (pc2 := 32) rfl rfl rfl rfl ?_
          try simp (disch := omega) only [nI_lit, pk_mul, nI_add, pk_sub, pk_rem4, nI_clamp, up2_o, up2_s, up2_i, cpV_o, cpV_i, e6, e14]
          refine fs_iald (pc2 := 33) rfl rfl rfl (by assumption) (vp_in_nI (by omega) (by decide)) ?_
          refine fs_iconst (pc2 := 34) rfl rfl rfl ?_
          try simp (disch := omega) only [nI_lit, pk_mul, nI_add, pk_sub, pk_rem4, nI_clamp, up2_o, up2_s, up2_i, cpV_o, cpV_i, e6, e14]
          refine fs_icmp_ne (pc2 := 37) rfl rfl rfl (fun h34 => ?_) (fun h34 => ?_)
          · have k34 : (H.2.1 i).1 1 ≠ 1 := c_ne (b := 1) h34 rfl rfl
            refine fs_aload_n (pc2 := 51) rfl rfl rfl rfl ?_
            refine fs_getr (pc2 := 54) rfl rfl rfl (by assumption) rfl ?_
            refine fs_iload (pc2 := 56) rfl rfl rfl rfl ?_
            try simp (disch := omega) only [nI_lit, pk_mul, nI_add, pk_sub, pk_rem4, nI_clamp, up2_o, up2_s, up2_i, cpV_o, cpV_i, e6, e14]
            refine fs_iald (pc2 := 57) rfl rfl rfl (by assumption) (vp_in_nI (by omega) (by decide)) ?_
            refine fs_iload_n (pc2 := 58) rfl rfl rfl rfl ?_
            try simp (disch := omega) only [nI_lit, pk_mul, nI_add, pk_sub, pk_rem4, nI_clamp, up2_o, up2_s, up2_i, cpV_o, cpV_i, e6, e14]
            refine fs_icmp_ne (pc2 := 61) rfl rfl rfl (fun h58 => ?_) (fun h58 => ?_)
            · have k58 : (H.2.1 i).1 2 ≠ sid := c_ne h58 rfl rfl
              exact absurd k23 k58
            · have k58 : (H.2.1 i).1 2 = sid := c_eq h58 rfl rfl
              refine fs_aload_n (pc2 := 62) rfl rfl rfl rfl ?_
              refine fs_getr (pc2 := 65) rfl rfl rfl (by assumption) rfl ?_
              refine fs_iload (pc2 := 67) rfl rfl rfl rfl ?_
              try simp (disch := omega) only [nI_lit, pk_mul, nI_add, pk_sub, pk_rem4, nI_clamp, up2_o, up2_s, up2_i, cpV_o, cpV_i, e6, e14]
              refine fs_iald (pc2 := 68) rfl rfl rfl (by assumption) (vp_in_nI (by omega) (by decide)) ?_
              refine fs_iconst (pc2 := 69) rfl rfl rfl ?_
              try simp (disch := omega) only [nI_lit, pk_mul, nI_add, pk_sub, pk_rem4, nI_clamp, up2_o, up2_s, up2_i, cpV_o, cpV_i, e6, e14]
              refine fs_icmp_eq (pc2 := 72) rfl rfl rfl (fun h69 => ?_) (fun h69 => ?_)
              · have k69 : (H.2.1 i).1 1 = 1 := c_eq (b := 1) h69 rfl rfl
                exact absurd k69 k34
              · have k69 : (H.2.1 i).1 1 ≠ 1 := c_ne (b := 1) h69 rfl rfl
                refine fs_aload_n (pc2 := 73) rfl rfl rfl rfl ?_
                refine fs_getr (pc2 := 76) rfl rfl rfl (by assumption) rfl ?_
                refine fs_iload (pc2 := 78) rfl rfl rfl rfl ?_
                try simp (disch := omega) only [nI_lit, pk_mul, nI_add, pk_sub, pk_rem4, nI_clamp, up2_o, up2_s, up2_i, cpV_o, cpV_i, e6, e14]
                refine fs_iald (pc2 := 79) rfl rfl rfl (by assumption) (vp_in_nI (by omega) (by decide)) ?_
                refine fs_iconst (pc2 := 80) rfl rfl rfl ?_
                try simp (disch := omega) only [nI_lit, pk_mul, nI_add, pk_sub, pk_rem4, nI_clamp, up2_o, up2_s, up2_i, cpV_o, cpV_i, e6, e14]
                refine fs_icmp_ne (pc2 := 83) rfl rfl rfl (fun h80 => ?_) (fun h80 => ?_)
                · have k80 : (H.2.1 i).1 1 ≠ 3 := c_ne (b := 3) h80 rfl rfl
                  refine fs_iinc (pc2 := 98) rfl rfl rfl (Nat.le_of_ble_eq_true rfl) rfl ?_
                  refine fs_goto rfl rfl ?_
                  try simp (disch := omega) only [nI_lit, pk_mul, nI_add, pk_sub, pk_rem4, nI_clamp, up2_o, up2_s, up2_i, cpV_o, cpV_i]
                  exact ih (i + 1) (by omega) (no (by simp [k23, k34, k58, k69, k80]))
                · have k80 : (H.2.1 i).1 1 = 3 := c_eq (b := 3) h80 rfl rfl
                  refine fs_iload_n (pc2 := 84) rfl rfl rfl rfl ?_
                  refine fs_iconst (pc2 := 85) rfl rfl rfl ?_
                  try simp (disch := omega) only [nI_lit, pk_mul, nI_add, pk_sub, pk_rem4, nI_clamp, up2_o, up2_s, up2_i, cpV_o, cpV_i, e6, e14]
                  refine fs_icmp_ne (pc2 := 88) rfl rfl rfl (fun h85 => ?_) (fun h85 => ?_)
                  · exact absurd rfl h85
                  · refine fs_aload_n (pc2 := 89) rfl rfl rfl rfl ?_
                    refine fs_iload (pc2 := 91) rfl rfl rfl rfl ?_
                    try simp (disch := omega) only [nI_lit, pk_mul, nI_add, pk_sub, pk_rem4, nI_clamp, up2_o, up2_s, up2_i, cpV_o, cpV_i, e6, e14]
                    refine fs_callv (pc2 := 94) rfl rfl rfl rfl ⟨rfl, rfl⟩ (Nat.le_of_ble_eq_true rfl) (Nat.le_of_ble_eq_true rfl) (Nat.le_of_ble_eq_true rfl) (fs_rcv rfl (by assumption)) (m_close hm hM hh (by omega)) (fun v9 sh9 V9 n9 hp9 => ?_)
                    obtain ⟨ea9, eb9, ec9, hM2, kp2⟩ := hp9
                    cases ea9
                    obtain rfl := eb9.symm
                    obtain rfl := ec9.symm
                    try simp (disch := omega) only [nI_lit, pk_mul, nI_add, pk_sub, pk_rem4, nI_clamp, up2_o, up2_s, up2_i, cpV_o, cpV_i, e6, e14]
                    refine fs_ret rfl rfl ?_
                    rw [yes (by simp [k23, k34, k58, k69, k80])] at hP
                    exact hP _ _ _ _ ⟨rfl, rfl, rfl, hM2, kp2⟩
          · have k34 : (H.2.1 i).1 1 = 1 := c_eq (b := 1) h34 rfl rfl
            refine fs_iload_n (pc2 := 38) rfl rfl rfl rfl ?_
            refine fs_bipush (pc2 := 40) rfl rfl rfl ?_
            try simp (disch := omega) only [nI_lit, pk_mul, nI_add, pk_sub, pk_rem4, nI_clamp, up2_o, up2_s, up2_i, cpV_o, cpV_i, e6, e14]
            refine fs_icmp_ne (pc2 := 43) rfl rfl rfl (fun h40 => ?_) (fun h40 => ?_)
            · refine fs_aload_n (pc2 := 51) rfl rfl rfl rfl ?_
              refine fs_getr (pc2 := 54) rfl rfl rfl (by assumption) rfl ?_
              refine fs_iload (pc2 := 56) rfl rfl rfl rfl ?_
              try simp (disch := omega) only [nI_lit, pk_mul, nI_add, pk_sub, pk_rem4, nI_clamp, up2_o, up2_s, up2_i, cpV_o, cpV_i, e6, e14]
              refine fs_iald (pc2 := 57) rfl rfl rfl (by assumption) (vp_in_nI (by omega) (by decide)) ?_
              refine fs_iload_n (pc2 := 58) rfl rfl rfl rfl ?_
              try simp (disch := omega) only [nI_lit, pk_mul, nI_add, pk_sub, pk_rem4, nI_clamp, up2_o, up2_s, up2_i, cpV_o, cpV_i, e6, e14]
              refine fs_icmp_ne (pc2 := 61) rfl rfl rfl (fun h58 => ?_) (fun h58 => ?_)
              · have k58 : (H.2.1 i).1 2 ≠ sid := c_ne h58 rfl rfl
                exact absurd k23 k58
              · have k58 : (H.2.1 i).1 2 = sid := c_eq h58 rfl rfl
                refine fs_aload_n (pc2 := 62) rfl rfl rfl rfl ?_
                refine fs_getr (pc2 := 65) rfl rfl rfl (by assumption) rfl ?_
                refine fs_iload (pc2 := 67) rfl rfl rfl rfl ?_
                try simp (disch := omega) only [nI_lit, pk_mul, nI_add, pk_sub, pk_rem4, nI_clamp, up2_o, up2_s, up2_i, cpV_o, cpV_i, e6, e14]
                refine fs_iald (pc2 := 68) rfl rfl rfl (by assumption) (vp_in_nI (by omega) (by decide)) ?_
                refine fs_iconst (pc2 := 69) rfl rfl rfl ?_
                try simp (disch := omega) only [nI_lit, pk_mul, nI_add, pk_sub, pk_rem4, nI_clamp, up2_o, up2_s, up2_i, cpV_o, cpV_i, e6, e14]
                refine fs_icmp_eq (pc2 := 72) rfl rfl rfl (fun h69 => ?_) (fun h69 => ?_)
                · have k69 : (H.2.1 i).1 1 = 1 := c_eq (b := 1) h69 rfl rfl
                  refine fs_iload_n (pc2 := 84) rfl rfl rfl rfl ?_
                  refine fs_iconst (pc2 := 85) rfl rfl rfl ?_
                  try simp (disch := omega) only [nI_lit, pk_mul, nI_add, pk_sub, pk_rem4, nI_clamp, up2_o, up2_s, up2_i, cpV_o, cpV_i, e6, e14]
                  refine fs_icmp_ne (pc2 := 88) rfl rfl rfl (fun h85 => ?_) (fun h85 => ?_)
                  · exact absurd rfl h85
                  · refine fs_aload_n (pc2 := 89) rfl rfl rfl rfl ?_
                    refine fs_iload (pc2 := 91) rfl rfl rfl rfl ?_
                    try simp (disch := omega) only [nI_lit, pk_mul, nI_add, pk_sub, pk_rem4, nI_clamp, up2_o, up2_s, up2_i, cpV_o, cpV_i, e6, e14]
                    refine fs_callv (pc2 := 94) rfl rfl rfl rfl ⟨rfl, rfl⟩ (Nat.le_of_ble_eq_true rfl) (Nat.le_of_ble_eq_true rfl) (Nat.le_of_ble_eq_true rfl) (fs_rcv rfl (by assumption)) (m_close hm hM hh (by omega)) (fun v9 sh9 V9 n9 hp9 => ?_)
                    obtain ⟨ea9, eb9, ec9, hM2, kp2⟩ := hp9
                    cases ea9
                    obtain rfl := eb9.symm
                    obtain rfl := ec9.symm
                    try simp (disch := omega) only [nI_lit, pk_mul, nI_add, pk_sub, pk_rem4, nI_clamp, up2_o, up2_s, up2_i, cpV_o, cpV_i, e6, e14]
                    refine fs_ret rfl rfl ?_
                    rw [yes (by simp [k23, k34, k58, k69])] at hP
                    exact hP _ _ _ _ ⟨rfl, rfl, rfl, hM2, kp2⟩
                · have k69 : (H.2.1 i).1 1 ≠ 1 := c_ne (b := 1) h69 rfl rfl
                  exact absurd k34 k69
            · exact absurd h40 (by decide)
  refine fs_iconst (pc2 := 1) rfl rfl rfl ?_
  refine fs_iload_n (pc2 := 2) rfl rfl rfl rfl ?_
  refine fs_imul (pc2 := 3) rfl rfl rfl ?_
  refine fs_istore (pc2 := 5) rfl rfl rfl (Nat.le_of_ble_eq_true rfl) ?_
  try simp (disch := omega) only [nI_lit, pk_mul, nI_add, pk_sub, pk_rem4, nI_clamp, up2_o, up2_s, up2_i, cpV_o, cpV_i]
  exact loop 4 0 (by omega) (fun q hq => by omega)
end MSIG
