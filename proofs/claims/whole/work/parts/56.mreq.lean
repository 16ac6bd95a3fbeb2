theorem isInB_nI {s a b : Nat} (hs : s < 2 ^ 31) (ha : a < 2 ^ 31) (hb : b < 2 ^ 31) : isInB (nI s) (nI a) (nI b) = decide (a ≤ s ∧ s ≤ b) := by
  unfold isInB
  have e : (¬ nI s < nI a ∧ nI s ≤ nI b) ↔ (a ≤ s ∧ s ≤ b) := by rw [nI_ltI hs ha, nI_leI hs hb, Nat.not_lt]
  exact decide_eq_decide.mpr e
theorem MM.add {V : fl_V} {mb : Nat} {xs : List Nat} {b : Nat} (h : MM V mb xs) (hb : b < 256) (hl : xs.length < 16) : MM (up2 (up2 V (mb + 45) xs.length (nI b)) mb 47 (nI (xs.length + 1))) mb (xs ++ [b]) := by
  obtain ⟨x1, x2, x3⟩ := h
  refine ⟨by rw [up2_s]; simp, by simp; omega, fun j c hj => ?_⟩
  rw [up2_o (by omega)]
  have lj := (List.getElem?_eq_some_iff.mp hj).1
  simp at lj
  by_cases q : j < xs.length
  · rw [List.getElem?_append_left q] at hj
    rw [up2_i (by omega)]
    exact x3 j c hj
  · have : j = xs.length := by omega
    subst this
    simp at hj
    subst hj
    rw [Nat.zero_add]
    exact ⟨up2_s, hb⟩
theorem KP.up47 {V V' : fl_V} {mb : Nat} {v : Int32} (h : KP mb V V') : KP mb V (up2 V' mb 47 v) := ⟨by rw [up2_i (by omega)]; exact h.1, by rw [up2_o (by omega)]; exact h.2.1, h.2.2.up0⟩
theorem bI_t {b : Bool} (h : ¬ bI b = 0) : b = true := by
  cases b with
  | true => rfl
  | false => exact absurd rfl h
section MREQ
variable {cy : Nat → ClassId} {z0 : Nat} {ext : Nat → Nat → List Value → ev_H → Nat → ev_P → Prop} {d : Nat} {sh : fl_S} {V : fl_V} {n mb : Nat} {T : Nat → Nat} {S : List Nat} {HH : Nat → Ho} {H : Ho} {h k : Nat}
set_option maxRecDepth 100000 in
set_option maxHeartbeats 4000000 in
theorem m_hand (hm : isMo sh mb) {k : Nat} (hX : HD V mb (H.2.2.2.2.2.2.drop 4)) (hl : 10 + 2 * k ≤ H.2.2.2.2.2.2.length) (hk : k < 10) : fl_M cy z0 ext (d + 1) m_X7_handTwo [.ref (z0 + mb), .int (nI (4 + 2 * k))] sh V n (fun v sh' V' n' => v = some (.int (nI (tl H k))) ∧ sh' = sh ∧ n' = n ∧ V' = V) := by
  have := m_handTwo (d := d) (cy := cy) (z0 := z0) (ext := ext) (n := n) hm hX (k := 4 + 2 * k) (by omega)
  rw [show (H.2.2.2.2.2.2.drop 4).getD (4 + 2 * k) 0 + 256 * (H.2.2.2.2.2.2.drop 4).getD (4 + 2 * k + 1) 0 = tl H k from by
    unfold tl num2
    rw [if_pos (by omega)]
    simp only [List.getD_eq_getElem?_getD, List.getElem?_drop]
    rw [show 4 + (4 + 2 * k) = 8 + 2 * k by omega, show 4 + (4 + 2 * k + 1) = 8 + 2 * k + 1 by omega]] at this
  exact this
theorem tl_lt2 {k : Nat} (hX : HD V mb (H.2.2.2.2.2.2.drop 4)) (hk : k < 10) : tl H k < 65536 := by
  unfold tl num2
  split
  · have a := (hX (4 + 2 * k) (by omega)).2
    have b := (hX (4 + 2 * k + 1) (by omega)).2
    simp only [List.getD_eq_getElem?_getD, List.getElem?_drop] at a b ⊢
    rw [show 4 + (4 + 2 * k) = 8 + 2 * k by omega] at a
    rw [show 4 + (4 + 2 * k + 1) = 8 + 2 * k + 1 by omega] at b
    omega
  · omega
theorem HD.kept {V' : fl_V} {xs : List Nat} (hX : HD V mb xs) (hk : V' (mb + 44) = V (mb + 44)) : HD V' mb xs := by
  intro j hj
  rw [hk]
  exact hX j hj
set_option maxRecDepth 100000 in
set_option maxHeartbeats 4000000 in
theorem m_reject (hm : isMo sh mb) (hM : Mo V mb T S (va_up HH h H)) (hh : h < 2) {sid rs : Nat} {ms : List Nat} (hid : sid < 256) (hr : rs < 65536) (lm : ms.length ≤ 8) (hms : ∀ j, j < ms.length → V (mb + 44) (4 + j) = nI (ms.getD j 0) ∧ ms.getD j 0 < 256) (hT : ∀ i, i < 2 → T i < 2048) : fl_M cy z0 ext (d + 2) m_X7_reject [.ref (z0 + mb), .int (nI h), .int (nI sid), .int (nI rs), .int (nI ms.length)] sh V n (fun v sh' V' n' => v = none ∧ sh' = sh ∧ n' = n ∧ Mo V' mb (fun i => T i + 1) S (va_up HH h (hoQ (hoN H 13 (H.1 13 + 1)) (H.2.2.2.2.1 ++ [[1, sid, 2 + ms.length, 0] ++ two rs ++ ms]))) ∧ KP mb V V') := by
  have m0 := hm.1
  have a43 : sh (mb + 43) = some (.inl (1, 2, none)) := hm.2 42 (1, 2) rfl
  have a44 : sh (mb + 44) = some (.inl (1, 32, none)) := hm.2 43 (1, 32) rfl
  have a45 : sh (mb + 45) = some (.inl (1, 16, none)) := hm.2 44 (1, 16) rfl
  obtain ⟨n1, n2, n3, n4, n5, e43⟩ := id (hM.host hh).1
  have hM1 := hM.pN (N := va_up H.1 13 (H.1 13 + 1)) hh (FM.refl.up (j := 43) (i := h) (v := nI (H.1 13 + 1)) (by simp [own])) ⟨by rw [up2_o (by omega), va_up_ne _ _ (by decide)]; exact n1, by rw [va_up_ne _ _ (by decide)]; exact n2, by rw [up2_o (by omega), va_up_ne _ _ (by decide)]; exact n3, by rw [up2_o (by omega), va_up_ne _ _ (by decide)]; exact n4, by rw [up2_o (by omega), va_up_ne _ _ (by decide)]; exact n5, by rw [up2_s, va_up_self]⟩ (va_up_ne _ _ (by decide))
  have kp1 : KP mb V (up2 V (mb + 43) h (nI (H.1 13 + 1))) := KP.refl.up (by decide)
  refine fs_body rfl rfl (fun Ret hP => ?_)
  have loop : ∀ j i (V1 : fl_V), i + j = ms.length → Mo V1 mb T S (va_up HH h (hoN H 13 (H.1 13 + 1))) → KP mb V V1 → MM V1 mb ([1, sid, (2 + ms.length) % 256, (2 + ms.length) / 256] ++ [rs % 256, rs / 256] ++ ms.take i) → fl_R cy z0 (ev_M cy ext (d + 1)) 7 0 0 6 none kc_X7_reject Ret 28 [(0, .ref (z0 + mb)), (1, .int (nI h)), (2, .int (nI sid)), (3, .int (nI rs)), (4, .int (nI ms.length)), (5, .int (nI i))] [] sh V1 n 0 0 := by
    intro j
    induction j with
    | zero =>
      intro i V1 hi hM1 kp1 hX1
      have hi2 : i = ms.length := by omega
      subst hi2
      rw [List.take_of_length_le (Nat.le_refl _)] at hX1
      refine fs_iload (pc2 := 30) rfl rfl rfl rfl ?_
      refine fs_iload (pc2 := 32) rfl rfl rfl rfl ?_
      try simp (disch := omega) only [nI_lit, pk_mul, nI_add, pk_sub, pk_rem4, nI_clamp, up2_o, up2_s, up2_i, cpV_o, cpV_i]
      refine fs_icmp_ge (pc2 := 35) rfl rfl rfl (fun h32 => ?_) (fun h32 => ?_)
      · refine fs_aload_n (pc2 := 70) rfl rfl rfl rfl ?_
        refine fs_iload_n (pc2 := 71) rfl rfl rfl rfl ?_
        try simp (disch := omega) only [nI_lit, pk_mul, nI_add, pk_sub, pk_rem4, nI_clamp, up2_o, up2_s, up2_i, cpV_o, cpV_i]
        refine fs_callv (pc2 := 74) rfl rfl rfl rfl ⟨rfl, rfl⟩ (Nat.le_of_ble_eq_true rfl) (Nat.le_of_ble_eq_true rfl) (Nat.le_of_ble_eq_true rfl) (fs_rcv rfl (by assumption)) (m_wait hm hM1 hh hX1 (by simp; omega) hT) (fun v9 sh9 V9 n9 hp9 => ?_)
        obtain ⟨ea9, eb9, ec9, hM2, kp2⟩ := hp9
        cases ea9
        obtain rfl := eb9.symm
        obtain rfl := ec9.symm
        try simp (disch := omega) only [nI_lit, pk_mul, nI_add, pk_sub, pk_rem4, nI_clamp, up2_o, up2_s, up2_i, cpV_o, cpV_i]
        refine fs_ret rfl rfl ?_
        rw [show (2 + ms.length) % 256 = 2 + ms.length by omega, show (2 + ms.length) / 256 = 0 by omega] at hM2
        exact hP _ _ _ _ ⟨rfl, rfl, rfl, hM2, kp1.trans kp2⟩
      · have := c_lt (a := ms.length) (b := ms.length) h32 rfl rfl
        omega
    | succ j ih =>
      intro i V1 hi hM1 kp1 hX1
      obtain ⟨e1, l1⟩ := hms i (by omega)
      have e44 : V1 (mb + 44) (4 + i) = nI (ms.getD i 0) := by rw [kp1.2.1]; exact e1
      have et := take_one (x := ms) (i := i) (by omega)
      have e47 : V1 mb 47 = nI (6 + i) := by rw [hX1.1]; congr 1; simp; omega
      have lxs : ([1, sid, (2 + ms.length) % 256, (2 + ms.length) / 256] ++ [rs % 256, rs / 256] ++ ms.take i).length = 6 + i := by simp; omega
      have hX2 := hX1.add l1 (by simp; omega)
      rw [lxs, List.append_assoc, et] at hX2
      refine fs_iload (pc2 := 30) rfl rfl rfl rfl ?_
      refine fs_iload (pc2 := 32) rfl rfl rfl rfl ?_
      try simp (disch := omega) only [nI_lit, pk_mul, nI_add, pk_sub, pk_rem4, nI_clamp, up2_o, up2_s, up2_i, cpV_o, cpV_i, e47, e44]
      refine fs_icmp_ge (pc2 := 35) rfl rfl rfl (fun h32 => ?_) (fun h32 => ?_)
      · have := c_nlt (a := i) (b := ms.length) h32 rfl rfl
        omega
      · refine fs_aload_n (pc2 := 36) rfl rfl rfl rfl ?_
        refine fs_getr (pc2 := 39) rfl rfl rfl (by assumption) rfl ?_
        refine fs_aload_n (pc2 := 40) rfl rfl rfl rfl ?_
        refine fs_geti (pc2 := 43) rfl rfl rfl (by assumption) rfl ?_
        refine fs_aload_n (pc2 := 44) rfl rfl rfl rfl ?_
        refine fs_getr (pc2 := 47) rfl rfl rfl (by assumption) rfl ?_
        refine fs_iconst (pc2 := 48) rfl rfl rfl ?_
        refine fs_iload (pc2 := 50) rfl rfl rfl rfl ?_
        refine fs_iadd (pc2 := 51) rfl rfl rfl ?_
        try simp (disch := omega) only [nI_lit, pk_mul, nI_add, pk_sub, pk_rem4, nI_clamp, up2_o, up2_s, up2_i, cpV_o, cpV_i, e47, e44]
        refine fs_iald (pc2 := 52) rfl rfl rfl (by assumption) (vp_in_nI (by omega) (by decide)) ?_
        try simp (disch := omega) only [nI_lit, pk_mul, nI_add, pk_sub, pk_rem4, nI_clamp, up2_o, up2_s, up2_i, cpV_o, cpV_i, e47, e44]
        refine fs_iast (pc2 := 53) rfl rfl rfl (by assumption) (vp_in_nI (by omega) (by decide)) ?_
        refine fs_aload_n (pc2 := 54) rfl rfl rfl rfl ?_
        first | refine fs_dup_r (pc2 := 55) rfl rfl rfl ?_ | refine fs_dup_i (pc2 := 55) rfl rfl rfl ?_
        refine fs_geti (pc2 := 58) rfl rfl rfl (by assumption) rfl ?_
        refine fs_iconst (pc2 := 59) rfl rfl rfl ?_
        refine fs_iadd (pc2 := 60) rfl rfl rfl ?_
        refine fs_puti (pc2 := 63) rfl rfl rfl (by assumption) rfl True.intro ?_
        refine fs_iinc (pc2 := 66) rfl rfl rfl (Nat.le_of_ble_eq_true rfl) rfl ?_
        refine fs_goto rfl rfl ?_
        try simp (disch := omega) only [nI_lit, pk_mul, nI_add, pk_sub, pk_rem4, nI_clamp, up2_o, up2_s, up2_i, cpV_o, cpV_i, e47]
        exact ih (i + 1) _ (by omega) (hM1.tmp ((FM.refl.up (j := 45) (by simp [own])).up (j := 0) (i := 47) (by simp [own]))) (kp1.trans ((KP.refl.up (by decide)).up47)) hX2
  refine fs_aload_n (pc2 := 1) rfl rfl rfl rfl ?_
  refine fs_getr (pc2 := 4) rfl rfl rfl (by assumption) rfl ?_
  refine fs_iload_n (pc2 := 5) rfl rfl rfl rfl ?_
  refine fs_dup2 (pc2 := 6) rfl rfl rfl ?_
  first | simp (disch := omega) only [nI_lit, pk_mul, nI_add, pk_sub, pk_rem4, nI_clamp, up2_o, up2_s, up2_i, cpV_o, cpV_i, e43] | simp (disch := omega) only [nI_lit, pk_mul, nI_add, pk_sub, pk_rem4, nI_clamp, up2_o, up2_s, up2_i, cpV_o, cpV_i] | skip
  refine fs_iald (pc2 := 7) rfl rfl rfl (by assumption) (vp_in_nI (by omega) (by decide)) ?_
  refine fs_iconst (pc2 := 8) rfl rfl rfl ?_
  refine fs_iadd (pc2 := 9) rfl rfl rfl ?_
  first | simp (disch := omega) only [nI_lit, pk_mul, nI_add, pk_sub, pk_rem4, nI_clamp, up2_o, up2_s, up2_i, cpV_o, cpV_i, e43] | simp (disch := omega) only [nI_lit, pk_mul, nI_add, pk_sub, pk_rem4, nI_clamp, up2_o, up2_s, up2_i, cpV_o, cpV_i] | skip
  refine fs_iast (pc2 := 10) rfl rfl rfl (by assumption) (vp_in_nI (by omega) (by decide)) ?_
  refine fs_aload_n (pc2 := 11) rfl rfl rfl rfl ?_
  refine fs_iconst (pc2 := 12) rfl rfl rfl ?_
  refine fs_iload_n (pc2 := 13) rfl rfl rfl rfl ?_
  refine fs_iconst (pc2 := 14) rfl rfl rfl ?_
  refine fs_iload (pc2 := 16) rfl rfl rfl rfl ?_
  refine fs_iadd (pc2 := 17) rfl rfl rfl ?_
  try simp (disch := omega) only [nI_lit, pk_mul, nI_add, pk_sub, pk_rem4, nI_clamp, up2_o, up2_s, up2_i, cpV_o, cpV_i]
  refine fs_callv (pc2 := 20) rfl rfl rfl rfl ⟨rfl, rfl⟩ (Nat.le_of_ble_eq_true rfl) (Nat.le_of_ble_eq_true rfl) (Nat.le_of_ble_eq_true rfl) (fs_rcv rfl (by assumption)) (m_begin hm hM1 (co := 1) (sid := sid) (l := 2 + ms.length) (by decide) hid (by omega)) (fun v9 sh9 V9 n9 hp9 => ?_)
  obtain ⟨ea9, eb9, ec9, hM5, hX5, kh5, kf5, ko5⟩ := hp9
  cases ea9
  obtain rfl := eb9.symm
  obtain rfl := ec9.symm
  have kp5 := kp1.trans ⟨kf5, kh5, ko5⟩
  refine fs_aload_n (pc2 := 21) rfl rfl rfl rfl ?_
  refine fs_iload_n (pc2 := 22) rfl rfl rfl rfl ?_
  try simp (disch := omega) only [nI_lit, pk_mul, nI_add, pk_sub, pk_rem4, nI_clamp, up2_o, up2_s, up2_i, cpV_o, cpV_i]
  refine fs_callv (pc2 := 25) rfl rfl rfl rfl ⟨rfl, rfl⟩ (Nat.le_of_ble_eq_true rfl) (Nat.le_of_ble_eq_true rfl) (Nat.le_of_ble_eq_true rfl) (fs_rcv rfl (by assumption)) (m_two hm hM5 hX5 (by simp) hr) (fun v9 sh9 V9 n9 hp9 => ?_)
  obtain ⟨ea9, eb9, ec9, hM6, hX6, kh6, kf6, ko6⟩ := hp9
  cases ea9
  obtain rfl := eb9.symm
  obtain rfl := ec9.symm
  have kp6 := kp5.trans ⟨kf6, kh6, ko6⟩
  refine fs_iconst (pc2 := 26) rfl rfl rfl ?_
  refine fs_istore (pc2 := 28) rfl rfl rfl (Nat.le_of_ble_eq_true rfl) ?_
  try simp (disch := omega) only [nI_lit, pk_mul, nI_add, pk_sub, pk_rem4, nI_clamp, up2_o, up2_s, up2_i, cpV_o, cpV_i]
  exact loop ms.length 0 _ (by omega) hM6 kp6 (by simpa using hX6)
set_option maxRecDepth 100000 in
set_option maxHeartbeats 4000000 in
theorem m_resultOf (hm : isMo sh mb) (hM : Mo V mb T S (va_up HH h H)) (hh : h < 2) {s f mm pp : Nat} (hs : s < 65536) (hf : f < 65536) (hmm : mm < 65536) (hpp : pp < 65536) : fl_M cy z0 ext (d + 2) m_X7_resultOf [.ref (z0 + mb), .int (nI h), .int (nI s), .int (nI f), .int (nI mm), .int (nI pp)] sh V n (fun v sh' V' n' => v = some (.int (nI (ho_judge H s f mm pp))) ∧ sh' = sh ∧ n' = n ∧ V' = V) := by
  have m0 := hm.1
  have a2 : sh (mb + 2) = some (.inl (2, 20, none)) := hm.2 1 (2, 20) rfl
  have a6 : sh (mb + 6) = some (.inl (1, 8, none)) := hm.2 5 (1, 8) rfl
  have a10 : sh (mb + 10) = some (.inl (1, 8, none)) := hm.2 9 (1, 8) rfl
  have hV := (hM.host hh).2.1
  have hCC := fun i hi => (hM.host hh).2.2.2.2.2.2 i hi
  refine fs_body rfl rfl (fun Ret hP => ?_)
  have loop : ho_has H s = true → ¬ (mm < 23 ∨ pp < 23) → (64 ≤ f ∧ f ≤ 127) → ∀ j i, i + j = 4 → (∀ q, q < i → ch_far (H.2.1 q) f = false) → fl_R cy z0 (ev_M cy ext (d + 1)) 7 0 0 7 (some .int) kc_X7_resultOf Ret 62 [(0, .ref (z0 + mb)), (1, .int (nI h)), (2, .int (nI s)), (3, .int (nI f)), (4, .int (nI mm)), (5, .int (nI pp)), (6, .int (nI (4 * h + i)))] [] sh V n 0 0 := by
    intro j1 j2 j3 j
    have ej : ho_judge H s f mm pp = if (first4 (fun j => ch_far (H.2.1 j) f)).isSome then 10 else if (ho_closed H).isNone then 4 else 0 := by
      unfold ho_judge; rw [if_neg (by rw [j1]; decide), if_neg j2, if_neg (by omega)]
    induction j with
    | zero =>
      intro i hi hn
      have hi2 : i = 4 := by omega
      subst hi2
      rw [show first4 (fun j => ch_far (H.2.1 j) f) = none from first4_none hn] at ej
      rw [ej] at hP
      refine fs_iload (pc2 := 64) rfl rfl rfl rfl ?_
      refine fs_iconst (pc2 := 65) rfl rfl rfl ?_
      refine fs_iload_n (pc2 := 66) rfl rfl rfl rfl ?_
      refine fs_imul (pc2 := 67) rfl rfl rfl ?_
      refine fs_iconst (pc2 := 68) rfl rfl rfl ?_
      refine fs_iadd (pc2 := 69) rfl rfl rfl ?_
      try simp (disch := omega) only [nI_lit, pk_mul, nI_add, pk_sub, pk_rem4, nI_clamp, up2_o, up2_s, up2_i, cpV_o, cpV_i]
      refine fs_icmp_ge (pc2 := 72) rfl rfl rfl (fun h69 => ?_) (fun h69 => ?_)
      · refine fs_aload_n (pc2 := 115) rfl rfl rfl rfl ?_
        refine fs_iload_n (pc2 := 116) rfl rfl rfl rfl ?_
        try simp (disch := omega) only [nI_lit, pk_mul, nI_add, pk_sub, pk_rem4, nI_clamp, up2_o, up2_s, up2_i, cpV_o, cpV_i]
        refine fs_callv (pc2 := 119) rfl rfl rfl rfl ⟨rfl, rfl⟩ (Nat.le_of_ble_eq_true rfl) (Nat.le_of_ble_eq_true rfl) (Nat.le_of_ble_eq_true rfl) (fs_rcv rfl (by assumption)) (m_firstClosed hm hM hh) (fun v9 sh9 V9 n9 hp9 => ?_)
        obtain ⟨ea9, eb9, ec9, hv9⟩ := hp9
        cases ea9
        obtain rfl := eb9.symm
        obtain rfl := ec9.symm
        cases hv9
        try simp (disch := omega) only [nI_lit, pk_mul, nI_add, pk_sub, pk_rem4, nI_clamp, up2_o, up2_s, up2_i, cpV_o, cpV_i]
        refine fs_if_ge (pc2 := 122) rfl rfl rfl (fun h119 => ?_) (fun h119 => ?_)
        · obtain ⟨k9, hk9⟩ : ∃ k, ho_closed H = some k := by
            cases hn : ho_closed H with
            | none => rw [hn] at h119; exact absurd (show (-nI 1 : Int32) < 0 by decide) h119
            | some i => exact ⟨i, rfl⟩
          rw [hk9] at hP
          refine fs_iconst (pc2 := 127) rfl rfl rfl ?_
          try simp (disch := omega) only [nI_lit, pk_mul, nI_add, pk_sub, pk_rem4, nI_clamp, up2_o, up2_s, up2_i, cpV_o, cpV_i]
          refine fs_iret rfl rfl True.intro ?_
          exact hP _ _ _ _ ⟨rfl, rfl, rfl, rfl⟩
        · have hk9 : ho_closed H = none := by
            cases hn : ho_closed H with
            | none => rfl
            | some i =>
              have := (first4_lt hn).1
              rw [hn] at h119
              exact absurd h119 (nI_nlt (b := 0) (by omega) (by omega))
          rw [hk9] at hP
          refine fs_iconst (pc2 := 123) rfl rfl rfl ?_
          refine fs_goto rfl rfl ?_
          try simp (disch := omega) only [nI_lit, pk_mul, nI_add, pk_sub, pk_rem4, nI_clamp, up2_o, up2_s, up2_i, cpV_o, cpV_i]
          refine fs_iret rfl rfl True.intro ?_
          exact hP _ _ _ _ ⟨rfl, rfl, rfl, rfl⟩
      · have := c_lt (a := 4 * h + 4) (b := 4 * h + 4) h69 rfl rfl
        omega
    | succ j ih =>
      intro i hi hn
      obtain ⟨e6, l6⟩ := (hCC i (by omega)).num (1, 6) (by decide)
      obtain ⟨e10, l10⟩ := (hCC i (by omega)).num (6, 10) (by decide)
      dsimp only at e6 l6 e10 l10
      have yes : ch_far (H.2.1 i) f = true → ho_judge H s f mm pp = 10 := fun q => by
        rw [ej, show first4 (fun j => ch_far (H.2.1 j) f) = some i from first4_some (p := fun j => ch_far (H.2.1 j) f) (by omega) q hn]; rfl
      have no : ch_far (H.2.1 i) f = false → ∀ q, q < i + 1 → ch_far (H.2.1 q) f = false := by
        intro hf q hq
        by_cases z : q = i
        · subst z; exact hf
        · exact hn q (by omega)
      refine fs_iload (pc2 := 64) rfl rfl rfl rfl ?_
      refine fs_iconst (pc2 := 65) rfl rfl rfl ?_
      refine fs_iload_n (pc2 := 66) rfl rfl rfl rfl ?_
      refine fs_imul (pc2 := 67) rfl rfl rfl ?_
      refine fs_iconst (pc2 := 68) rfl rfl rfl ?_
      refine fs_iadd (pc2 := 69) rfl rfl rfl ?_
      try simp (disch := omega) only [nI_lit, pk_mul, nI_add, pk_sub, pk_rem4, nI_clamp, up2_o, up2_s, up2_i, cpV_o, cpV_i, e6, e10]
      refine fs_icmp_ge (pc2 := 72) rfl rfl rfl (fun h69 => ?_) (fun h69 => ?_)
      · have := c_nlt (a := 4 * h + i) (b := 4 * h + 4) h69 rfl rfl
        omega
      · refine fs_aload_n (pc2 := 73) rfl rfl rfl rfl ?_
        refine fs_getr (pc2 := 76) rfl rfl rfl (by assumption) rfl ?_
        refine fs_iload (pc2 := 78) rfl rfl rfl rfl ?_
        try simp (disch := omega) only [nI_lit, pk_mul, nI_add, pk_sub, pk_rem4, nI_clamp, up2_o, up2_s, up2_i, cpV_o, cpV_i, e6, e10]
        refine fs_iald (pc2 := 79) rfl rfl rfl (by assumption) (vp_in_nI (by omega) (by decide)) ?_
        refine fs_iconst (pc2 := 80) rfl rfl rfl ?_
        try simp (disch := omega) only [nI_lit, pk_mul, nI_add, pk_sub, pk_rem4, nI_clamp, up2_o, up2_s, up2_i, cpV_o, cpV_i, e6, e10]
        refine fs_icmp_eq (pc2 := 83) rfl rfl rfl (fun h80 => ?_) (fun h80 => ?_)
        · have k80 : (H.2.1 i).1 1 = 2 := c_eq (b := 2) h80 rfl rfl
          refine fs_aload_n (pc2 := 95) rfl rfl rfl rfl ?_
          refine fs_getr (pc2 := 98) rfl rfl rfl (by assumption) rfl ?_
          refine fs_iload (pc2 := 100) rfl rfl rfl rfl ?_
          try simp (disch := omega) only [nI_lit, pk_mul, nI_add, pk_sub, pk_rem4, nI_clamp, up2_o, up2_s, up2_i, cpV_o, cpV_i, e6, e10]
          refine fs_iald (pc2 := 101) rfl rfl rfl (by assumption) (vp_in_nI (by omega) (by decide)) ?_
          refine fs_iload_n (pc2 := 102) rfl rfl rfl rfl ?_
          try simp (disch := omega) only [nI_lit, pk_mul, nI_add, pk_sub, pk_rem4, nI_clamp, up2_o, up2_s, up2_i, cpV_o, cpV_i, e6, e10]
          refine fs_icmp_ne (pc2 := 105) rfl rfl rfl (fun h102 => ?_) (fun h102 => ?_)
          · have k102 : (H.2.1 i).1 6 ≠ f := c_ne h102 rfl rfl
            refine fs_iinc (pc2 := 111) rfl rfl rfl (Nat.le_of_ble_eq_true rfl) rfl ?_
            refine fs_goto rfl rfl ?_
            try simp (disch := omega) only [nI_lit, pk_mul, nI_add, pk_sub, pk_rem4, nI_clamp, up2_o, up2_s, up2_i, cpV_o, cpV_i]
            exact ih (i + 1) (by omega) (no (by simp [ch_far, k80, k102]))
          · have k102 : (H.2.1 i).1 6 = f := c_eq h102 rfl rfl
            refine fs_bipush (pc2 := 107) rfl rfl rfl ?_
            try simp (disch := omega) only [nI_lit, pk_mul, nI_add, pk_sub, pk_rem4, nI_clamp, up2_o, up2_s, up2_i, cpV_o, cpV_i, e6, e10]
            refine fs_iret rfl rfl True.intro ?_
            rw [yes (by simp [ch_far, k80, k102])] at hP
            exact hP _ _ _ _ ⟨rfl, rfl, rfl, rfl⟩
        · have k80 : (H.2.1 i).1 1 ≠ 2 := c_ne (b := 2) h80 rfl rfl
          refine fs_aload_n (pc2 := 84) rfl rfl rfl rfl ?_
          refine fs_getr (pc2 := 87) rfl rfl rfl (by assumption) rfl ?_
          refine fs_iload (pc2 := 89) rfl rfl rfl rfl ?_
          try simp (disch := omega) only [nI_lit, pk_mul, nI_add, pk_sub, pk_rem4, nI_clamp, up2_o, up2_s, up2_i, cpV_o, cpV_i, e6, e10]
          refine fs_iald (pc2 := 90) rfl rfl rfl (by assumption) (vp_in_nI (by omega) (by decide)) ?_
          refine fs_iconst (pc2 := 91) rfl rfl rfl ?_
          try simp (disch := omega) only [nI_lit, pk_mul, nI_add, pk_sub, pk_rem4, nI_clamp, up2_o, up2_s, up2_i, cpV_o, cpV_i, e6, e10]
          refine fs_icmp_ne (pc2 := 94) rfl rfl rfl (fun h91 => ?_) (fun h91 => ?_)
          · have k91 : (H.2.1 i).1 1 ≠ 3 := c_ne (b := 3) h91 rfl rfl
            refine fs_iinc (pc2 := 111) rfl rfl rfl (Nat.le_of_ble_eq_true rfl) rfl ?_
            refine fs_goto rfl rfl ?_
            try simp (disch := omega) only [nI_lit, pk_mul, nI_add, pk_sub, pk_rem4, nI_clamp, up2_o, up2_s, up2_i, cpV_o, cpV_i]
            exact ih (i + 1) (by omega) (no (by simp [ch_far, k80, k91]))
          · have k91 : (H.2.1 i).1 1 = 3 := c_eq (b := 3) h91 rfl rfl
            refine fs_aload_n (pc2 := 95) rfl rfl rfl rfl ?_
            refine fs_getr (pc2 := 98) rfl rfl rfl (by assumption) rfl ?_
            refine fs_iload (pc2 := 100) rfl rfl rfl rfl ?_
            try simp (disch := omega) only [nI_lit, pk_mul, nI_add, pk_sub, pk_rem4, nI_clamp, up2_o, up2_s, up2_i, cpV_o, cpV_i, e6, e10]
            refine fs_iald (pc2 := 101) rfl rfl rfl (by assumption) (vp_in_nI (by omega) (by decide)) ?_
            refine fs_iload_n (pc2 := 102) rfl rfl rfl rfl ?_
            try simp (disch := omega) only [nI_lit, pk_mul, nI_add, pk_sub, pk_rem4, nI_clamp, up2_o, up2_s, up2_i, cpV_o, cpV_i, e6, e10]
            refine fs_icmp_ne (pc2 := 105) rfl rfl rfl (fun h102 => ?_) (fun h102 => ?_)
            · have k102 : (H.2.1 i).1 6 ≠ f := c_ne h102 rfl rfl
              refine fs_iinc (pc2 := 111) rfl rfl rfl (Nat.le_of_ble_eq_true rfl) rfl ?_
              refine fs_goto rfl rfl ?_
              try simp (disch := omega) only [nI_lit, pk_mul, nI_add, pk_sub, pk_rem4, nI_clamp, up2_o, up2_s, up2_i, cpV_o, cpV_i]
              exact ih (i + 1) (by omega) (no (by simp [ch_far, k80, k91, k102]))
            · have k102 : (H.2.1 i).1 6 = f := c_eq h102 rfl rfl
              refine fs_bipush (pc2 := 107) rfl rfl rfl ?_
              try simp (disch := omega) only [nI_lit, pk_mul, nI_add, pk_sub, pk_rem4, nI_clamp, up2_o, up2_s, up2_i, cpV_o, cpV_i, e6, e10]
              refine fs_iret rfl rfl True.intro ?_
              rw [yes (by simp [ch_far, k80, k91, k102])] at hP
              exact hP _ _ _ _ ⟨rfl, rfl, rfl, rfl⟩
  refine fs_iload_n (pc2 := 1) rfl rfl rfl rfl ?_
  refine fs_iconst (pc2 := 2) rfl rfl rfl ?_
  refine fs_bipush (pc2 := 4) rfl rfl rfl ?_
  try simp (disch := omega) only [nI_lit, pk_mul, nI_add, pk_sub, pk_rem4, nI_clamp, up2_o, up2_s, up2_i, cpV_o, cpV_i]
  refine fs_calls (pc2 := 7) rfl rfl rfl rfl rfl rfl ⟨rfl, rfl⟩ (Nat.le_of_ble_eq_true rfl) (Nat.le_of_ble_eq_true rfl) (Nat.le_of_ble_eq_true rfl) (m_isIn (u := nI s) (a := nI 1) (b := nI 9)) (fun v9 sh9 V9 n9 hp9 => ?_)
  obtain ⟨ea9, eb9, ec9, hv9⟩ := hp9
  cases ea9
  obtain rfl := eb9.symm
  obtain rfl := ec9.symm
  cases hv9
  rw [isInB_nI (by omega) (by decide) (by decide)]
  try simp (disch := omega) only [nI_lit, pk_mul, nI_add, pk_sub, pk_rem4, nI_clamp, up2_o, up2_s, up2_i, cpV_o, cpV_i]
  refine fs_if_eq (pc2 := 10) rfl rfl rfl (fun h7 => ?_) (fun h7 => ?_)
  · have k7 := of_decide_eq_false (bI_0.mp h7)
    have ej : ho_judge H s f mm pp = 2 := by unfold ho_judge; rw [if_pos (show ho_has H s = false from decide_eq_false (by omega))]
    refine fs_iconst (pc2 := 25) rfl rfl rfl ?_
    try simp (disch := omega) only [nI_lit, pk_mul, nI_add, pk_sub, pk_rem4, nI_clamp, up2_o, up2_s, up2_i, cpV_o, cpV_i]
    refine fs_iret rfl rfl True.intro ?_
    rw [ej] at hP
    exact hP _ _ _ _ ⟨rfl, rfl, rfl, rfl⟩
  · have k7 := of_decide_eq_true (bI_t h7)
    have e2 := (hV s (by omega)).1
    refine fs_aload_n (pc2 := 11) rfl rfl rfl rfl ?_
    refine fs_getr (pc2 := 14) rfl rfl rfl (by assumption) rfl ?_
    refine fs_bipush (pc2 := 16) rfl rfl rfl ?_
    refine fs_iload_n (pc2 := 17) rfl rfl rfl rfl ?_
    refine fs_imul (pc2 := 18) rfl rfl rfl ?_
    refine fs_iload_n (pc2 := 19) rfl rfl rfl rfl ?_
    refine fs_iadd (pc2 := 20) rfl rfl rfl ?_
    first | simp (disch := omega) only [nI_lit, pk_mul, nI_add, pk_sub, pk_rem4, nI_clamp, up2_o, up2_s, up2_i, cpV_o, cpV_i, e2] | simp (disch := omega) only [nI_lit, pk_mul, nI_add, pk_sub, pk_rem4, nI_clamp, up2_o, up2_s, up2_i, cpV_o, cpV_i] | skip
    refine fs_bald (pc2 := 21) rfl rfl rfl rfl (by assumption) (vp_in_nI (by omega) (by decide)) ?_
    first | simp (disch := omega) only [nI_lit, pk_mul, nI_add, pk_sub, pk_rem4, nI_clamp, up2_o, up2_s, up2_i, cpV_o, cpV_i, e2] | simp (disch := omega) only [nI_lit, pk_mul, nI_add, pk_sub, pk_rem4, nI_clamp, up2_o, up2_s, up2_i, cpV_o, cpV_i] | skip
    refine fs_if_ne (pc2 := 24) rfl rfl rfl (fun h21 => ?_) (fun h21 => ?_)
    · have k21 := of_decide_eq_true (bI_t h21)
      have j1 : ho_has H s = true := decide_eq_true (by omega)
      refine fs_iload (pc2 := 28) rfl rfl rfl rfl ?_
      refine fs_bipush (pc2 := 30) rfl rfl rfl ?_
      try simp (disch := omega) only [nI_lit, pk_mul, nI_add, pk_sub, pk_rem4, nI_clamp, up2_o, up2_s, up2_i, cpV_o, cpV_i]
      refine fs_icmp_lt (pc2 := 33) rfl rfl rfl (fun h30 => ?_) (fun h30 => ?_)
      · have k30 : mm < 23 := c_lt (b := 23) h30 rfl rfl
        have ej : ho_judge H s f mm pp = 11 := by unfold ho_judge; rw [if_neg (by rw [j1]; decide), if_pos (by omega)]
        refine fs_bipush (pc2 := 42) rfl rfl rfl ?_
        try simp (disch := omega) only [nI_lit, pk_mul, nI_add, pk_sub, pk_rem4, nI_clamp, up2_o, up2_s, up2_i, cpV_o, cpV_i]
        refine fs_iret rfl rfl True.intro ?_
        rw [ej] at hP
        exact hP _ _ _ _ ⟨rfl, rfl, rfl, rfl⟩
      · have k30 : 23 ≤ mm := c_nlt (b := 23) h30 rfl rfl
        refine fs_iload (pc2 := 35) rfl rfl rfl rfl ?_
        refine fs_bipush (pc2 := 37) rfl rfl rfl ?_
        try simp (disch := omega) only [nI_lit, pk_mul, nI_add, pk_sub, pk_rem4, nI_clamp, up2_o, up2_s, up2_i, cpV_o, cpV_i]
        refine fs_icmp_ge (pc2 := 40) rfl rfl rfl (fun h37 => ?_) (fun h37 => ?_)
        · have k37 : 23 ≤ pp := c_nlt (b := 23) h37 rfl rfl
          refine fs_iload_n (pc2 := 44) rfl rfl rfl rfl ?_
          refine fs_bipush (pc2 := 46) rfl rfl rfl ?_
          refine fs_bipush (pc2 := 48) rfl rfl rfl ?_
          try simp (disch := omega) only [nI_lit, pk_mul, nI_add, pk_sub, pk_rem4, nI_clamp, up2_o, up2_s, up2_i, cpV_o, cpV_i]
          refine fs_calls (pc2 := 51) rfl rfl rfl rfl rfl rfl ⟨rfl, rfl⟩ (Nat.le_of_ble_eq_true rfl) (Nat.le_of_ble_eq_true rfl) (Nat.le_of_ble_eq_true rfl) (m_isIn (u := nI f) (a := nI 64) (b := nI 127)) (fun v9 sh9 V9 n9 hp9 => ?_)
          obtain ⟨ea9, eb9, ec9, hv9⟩ := hp9
          cases ea9
          obtain rfl := eb9.symm
          obtain rfl := ec9.symm
          cases hv9
          rw [isInB_nI (by omega) (by decide) (by decide)]
          try simp (disch := omega) only [nI_lit, pk_mul, nI_add, pk_sub, pk_rem4, nI_clamp, up2_o, up2_s, up2_i, cpV_o, cpV_i]
          refine fs_if_ne (pc2 := 54) rfl rfl rfl (fun h51 => ?_) (fun h51 => ?_)
          · have k51 := of_decide_eq_true (bI_t h51)
            refine fs_iconst (pc2 := 58) rfl rfl rfl ?_
            refine fs_iload_n (pc2 := 59) rfl rfl rfl rfl ?_
            refine fs_imul (pc2 := 60) rfl rfl rfl ?_
            refine fs_istore (pc2 := 62) rfl rfl rfl (Nat.le_of_ble_eq_true rfl) ?_
            try simp (disch := omega) only [nI_lit, pk_mul, nI_add, pk_sub, pk_rem4, nI_clamp, up2_o, up2_s, up2_i, cpV_o, cpV_i]
            exact loop j1 (by omega) k51 4 0 (by omega) (fun q hq => by omega)
          · have k51 := of_decide_eq_false (bI_0.mp (by first | exact h51 | exact Decidable.not_not.mp h51))
            have ej : ho_judge H s f mm pp = 9 := by unfold ho_judge; rw [if_neg (by rw [j1]; decide), if_neg (by omega), if_pos k51]
            refine fs_bipush (pc2 := 56) rfl rfl rfl ?_
            try simp (disch := omega) only [nI_lit, pk_mul, nI_add, pk_sub, pk_rem4, nI_clamp, up2_o, up2_s, up2_i, cpV_o, cpV_i]
            refine fs_iret rfl rfl True.intro ?_
            rw [ej] at hP
            exact hP _ _ _ _ ⟨rfl, rfl, rfl, rfl⟩
        · have k37 : pp < 23 := c_lt (b := 23) h37 rfl rfl
          have ej : ho_judge H s f mm pp = 11 := by unfold ho_judge; rw [if_neg (by rw [j1]; decide), if_pos (by omega)]
          refine fs_bipush (pc2 := 42) rfl rfl rfl ?_
          try simp (disch := omega) only [nI_lit, pk_mul, nI_add, pk_sub, pk_rem4, nI_clamp, up2_o, up2_s, up2_i, cpV_o, cpV_i]
          refine fs_iret rfl rfl True.intro ?_
          rw [ej] at hP
          exact hP _ _ _ _ ⟨rfl, rfl, rfl, rfl⟩
    · have k21 := of_decide_eq_false (bI_0.mp (by first | exact h21 | exact Decidable.not_not.mp h21))
      have ej : ho_judge H s f mm pp = 2 := by unfold ho_judge; rw [if_pos (show ho_has H s = false from decide_eq_false (by omega))]
      refine fs_iconst (pc2 := 25) rfl rfl rfl ?_
      try simp (disch := omega) only [nI_lit, pk_mul, nI_add, pk_sub, pk_rem4, nI_clamp, up2_o, up2_s, up2_i, cpV_o, cpV_i]
      refine fs_iret rfl rfl True.intro ?_
      rw [ej] at hP
      exact hP _ _ _ _ ⟨rfl, rfl, rfl, rfl⟩
end MREQ
