theorem MU.add {V : fl_V} {mb h : Nat} {B : List Nat} {a b : Nat} (hU : MU V mb h B a) (hb : b < 256) (hl : B.length < 128) : MU (up2 (up2 V (mb + 33) (160 * h + B.length) (nI b)) (mb + 31) h (nI (B.length + 1))) mb h (B ++ [b]) a := by
  obtain ⟨g1, g2, g3, g4, g5⟩ := hU
  refine ⟨by rw [up2_s]; simp, by rw [up2_o (by omega), up2_o (by omega)]; exact g2, by simp; omega, by simp; omega, fun j x hj => ?_⟩
  rw [up2_o (by omega)]
  have lj := (List.getElem?_eq_some_iff.mp hj).1
  simp at lj
  by_cases q : j < B.length
  · rw [List.getElem?_append_left q] at hj
    rw [up2_i (by omega)]
    exact g5 j x hj
  · have : j = B.length := by omega
    subst this
    simp at hj
    subst hj
    exact ⟨up2_s, hb⟩
theorem hoB_7 {H : Ho} {B : List Nat} : hoB (hoN H 7 (H.1 7)) B = hoB H B := by
  show (va_up H.1 7 (H.1 7), _) = _
  rw [va_up_id]
theorem sents_take {W : List Pkt} {i : Nat} {y : Pkt} (h : W[i]? = some y) : sents (W.take (i + 1)) = sents (W.take i) + (if y.2.1 then 1 else 0) := by
  unfold sents
  rw [List.take_add_one, h, List.filter_append, List.length_append]
  congr 1
  obtain ⟨a, b, l⟩ := y
  cases b <;> simp
theorem sents_take_le {W : List Pkt} {i : Nat} : sents (W.take i) ≤ sents W := by
  unfold sents
  exact (List.Sublist.filter _ (List.take_sublist i W)).length_le
section MLOW
variable {cy : Nat → ClassId} {z0 : Nat} {ext : Nat → Nat → List Value → ev_H → Nat → ev_P → Prop} {d : Nat} {sh : fl_S} {V : fl_V} {n mb : Nat} {T : Nat → Nat} {S : List Nat} {HH : Nat → Ho} {H : Ho} {h k : Nat}
set_option maxRecDepth 100000 in
set_option maxHeartbeats 4000000 in
theorem m_wait (hm : isMo sh mb) (hM : Mo V mb T S (va_up HH h H)) (hh : h < 2) {xs : List Nat} (hX : MM V mb xs) (lx : xs.length ≤ 14) (hT : ∀ i, i < 2 → T i < 2048) : fl_M cy z0 ext (d + 1) m_X7_wait [.ref (z0 + mb), .int (nI h)] sh V n (fun v sh' V' n' => v = none ∧ sh' = sh ∧ n' = n ∧ Mo V' mb (fun i => T i + 1) S (va_up HH h (hoQ H (H.2.2.2.2.1 ++ [xs]))) ∧ KP mb V V') := by
  have m0 := hm.1
  have a25 : sh (mb + 25) = some (.inl (1, 2, none)) := hm.2 24 (1, 2) rfl
  have a26 : sh (mb + 26) = some (.inl (1, 2, none)) := hm.2 25 (1, 2) rfl
  have a27 : sh (mb + 27) = some (.inl (1, 4096, none)) := hm.2 26 (1, 4096) rfl
  have a28 : sh (mb + 28) = some (.inl (1, 57344, none)) := hm.2 27 (1, 57344) rfl
  have a45 : sh (mb + 45) = some (.inl (1, 16, none)) := hm.2 44 (1, 16) rfl
  obtain ⟨fs, e25, e26, l1, l2, q5⟩ := id (hM.host hh).2.2.2.1
  obtain ⟨x1, x2, x3⟩ := id hX
  have lT := hT h hh
  refine fs_body rfl rfl (fun Ret hP => ?_)
  have loop : ∀ j i, i + j = xs.length → fl_R cy z0 (ev_M cy ext d) 7 0 0 4 none kc_X7_wait Ret 32 [(0, .ref (z0 + mb)), (1, .int (nI h)), (2, .int (nI (2048 * h + fs + H.2.2.2.2.1.length))), (3, .int (nI i))] [] sh (cpV (up2 V (mb + 27) (2048 * h + fs + H.2.2.2.2.1.length) (nI xs.length)) (mb + 28) (14 * (2048 * h + fs + H.2.2.2.2.1.length)) i (V (mb + 45))) n 0 0 := by
    intro j
    induction j with
    | zero =>
      intro i hi
      have hi2 : i = xs.length := by omega
      subst hi2
      refine fs_iload_n (pc2 := 33) rfl rfl rfl rfl ?_
      refine fs_aload_n (pc2 := 34) rfl rfl rfl rfl ?_
      refine fs_geti (pc2 := 37) rfl rfl rfl (by assumption) rfl ?_
      try simp (disch := omega) only [nI_lit, pk_mul, nI_add, pk_sub, pk_rem4, nI_clamp, up2_o, up2_s, up2_i, cpV_o, cpV_i, x1, e26]
      refine fs_icmp_ge (pc2 := 40) rfl rfl rfl (fun h37 => ?_) (fun h37 => ?_)
      · refine fs_aload_n (pc2 := 64) rfl rfl rfl rfl ?_
        refine fs_getr (pc2 := 67) rfl rfl rfl (by assumption) rfl ?_
        refine fs_iload_n (pc2 := 68) rfl rfl rfl rfl ?_
        refine fs_dup2 (pc2 := 69) rfl rfl rfl ?_
        try simp (disch := omega) only [nI_lit, pk_mul, nI_add, pk_sub, pk_rem4, nI_clamp, up2_o, up2_s, up2_i, cpV_o, cpV_i, x1, e26]
        refine fs_iald (pc2 := 70) rfl rfl rfl (by assumption) (vp_in_nI (by omega) (by decide)) ?_
        refine fs_iconst (pc2 := 71) rfl rfl rfl ?_
        refine fs_iadd (pc2 := 72) rfl rfl rfl ?_
        try simp (disch := omega) only [nI_lit, pk_mul, nI_add, pk_sub, pk_rem4, nI_clamp, up2_o, up2_s, up2_i, cpV_o, cpV_i, x1, e26]
        refine fs_iast (pc2 := 73) rfl rfl rfl (by assumption) (vp_in_nI (by omega) (by decide)) ?_
        try simp (disch := omega) only [nI_lit, pk_mul, nI_add, pk_sub, pk_rem4, nI_clamp, up2_o, up2_s, up2_i, cpV_o, cpV_i, x1, e26]
        refine fs_ret rfl rfl ?_
        refine hP _ _ _ _ ⟨rfl, rfl, rfl, (hM.mono (T' := fun i => T i + 1) (fun i hi => ⟨by omega, hT i hi⟩)).pQ hh (((FM.refl.up (j := 27) (by simp [own] <;> omega)).cp (j := 28) (fun x a1 a2 => by simp [own] <;> omega)).up (j := 26) (by simp [own])) ⟨fs, ?_, ?_, ?_, hT h hh, fun q x hq => ?_⟩, ((KP.refl.up (by decide)).cp (by decide)).up (by decide)⟩
        · rw [up2_o (by omega), cpV_o (by omega), up2_o (by omega)]; exact e25
        · rw [up2_s, List.length_append]; rfl
        · simp; omega
        · have lq := (List.getElem?_eq_some_iff.mp hq).1
          simp at lq
          simp (disch := omega) only [up2_o, cpV_o]
          by_cases z : q < H.2.2.2.2.1.length
          · rw [List.getElem?_append_left z] at hq
            obtain ⟨a1, a2, a3⟩ := q5 q x hq
            rw [up2_i (by omega)]
            exact ⟨a1, a2, a3.kept (fun j hj => by rw [cpV_i (by omega), up2_o (by omega)])⟩
          · have e : q = H.2.2.2.2.1.length := by omega
            subst e
            simp at hq
            subst hq
            refine ⟨up2_s, lx, fun j b hj => ?_⟩
            have lj := (List.getElem?_eq_some_iff.mp hj).1
            rw [cpV_s (by omega)]
            have := x3 j b hj
            rw [Nat.zero_add] at this
            rw [Nat.add_sub_cancel_left]
            exact this
      · exact absurd (by first | exact h37 | (rw [x1] at h37; exact h37)) (nI_nlt (Nat.le_refl _) (by omega))
    | succ j ih =>
      intro i hi
      refine fs_iload_n (pc2 := 33) rfl rfl rfl rfl ?_
      refine fs_aload_n (pc2 := 34) rfl rfl rfl rfl ?_
      refine fs_geti (pc2 := 37) rfl rfl rfl (by assumption) rfl ?_
      try simp (disch := omega) only [nI_lit, pk_mul, nI_add, pk_sub, pk_rem4, nI_clamp, up2_o, up2_s, up2_i, cpV_o, cpV_i, x1, e26]
      refine fs_icmp_ge (pc2 := 40) rfl rfl rfl (fun h37 => ?_) (fun h37 => ?_)
      · exact absurd (nI_lt (a := i) (b := xs.length) (by omega) (by omega)) (by first | exact h37 | (rw [x1] at h37; exact h37))
      · refine fs_aload_n (pc2 := 41) rfl rfl rfl rfl ?_
        refine fs_getr (pc2 := 44) rfl rfl rfl (by assumption) rfl ?_
        refine fs_bipush (pc2 := 46) rfl rfl rfl ?_
        refine fs_iload_n (pc2 := 47) rfl rfl rfl rfl ?_
        refine fs_imul (pc2 := 48) rfl rfl rfl ?_
        refine fs_iload_n (pc2 := 49) rfl rfl rfl rfl ?_
        refine fs_iadd (pc2 := 50) rfl rfl rfl ?_
        refine fs_aload_n (pc2 := 51) rfl rfl rfl rfl ?_
        refine fs_getr (pc2 := 54) rfl rfl rfl (by assumption) rfl ?_
        refine fs_iload_n (pc2 := 55) rfl rfl rfl rfl ?_
        try simp (disch := omega) only [nI_lit, pk_mul, nI_add, pk_sub, pk_rem4, nI_clamp, up2_o, up2_s, up2_i, cpV_o, cpV_i, x1, e26]
        refine fs_iald (pc2 := 56) rfl rfl rfl (by assumption) (vp_in_nI (by omega) (by decide)) ?_
        try simp (disch := omega) only [nI_lit, pk_mul, nI_add, pk_sub, pk_rem4, nI_clamp, up2_o, up2_s, up2_i, cpV_o, cpV_i, x1, e26]
        refine fs_iast (pc2 := 57) rfl rfl rfl (by assumption) (vp_in_nI (by omega) (by decide)) ?_
        refine fs_iinc (pc2 := 60) rfl rfl rfl (Nat.le_of_ble_eq_true rfl) rfl ?_
        refine fs_goto rfl rfl ?_
        try simp (disch := omega) only [nI_lit, pk_mul, nI_add, pk_sub, pk_rem4, nI_clamp, up2_o, up2_s, up2_i, cpV_o, cpV_i]
        rw [cpV_1 rfl]
        exact ih (i + 1) (by omega)
  refine fs_sipush (pc2 := 3) rfl rfl rfl ?_
  refine fs_iload_n (pc2 := 4) rfl rfl rfl rfl ?_
  refine fs_imul (pc2 := 5) rfl rfl rfl ?_
  refine fs_aload_n (pc2 := 6) rfl rfl rfl rfl ?_
  refine fs_getr (pc2 := 9) rfl rfl rfl (by assumption) rfl ?_
  refine fs_iload_n (pc2 := 10) rfl rfl rfl rfl ?_
  try simp (disch := omega) only [nI_lit, pk_mul, nI_add, pk_sub, pk_rem4, nI_clamp, up2_o, up2_s, up2_i, cpV_o, cpV_i, x1, e25, e26]
  refine fs_iald (pc2 := 11) rfl rfl rfl (by assumption) (vp_in_nI (by omega) (by decide)) ?_
  refine fs_iadd (pc2 := 12) rfl rfl rfl ?_
  refine fs_aload_n (pc2 := 13) rfl rfl rfl rfl ?_
  refine fs_getr (pc2 := 16) rfl rfl rfl (by assumption) rfl ?_
  refine fs_iload_n (pc2 := 17) rfl rfl rfl rfl ?_
  try simp (disch := omega) only [nI_lit, pk_mul, nI_add, pk_sub, pk_rem4, nI_clamp, up2_o, up2_s, up2_i, cpV_o, cpV_i, x1, e25, e26]
  refine fs_iald (pc2 := 18) rfl rfl rfl (by assumption) (vp_in_nI (by omega) (by decide)) ?_
  refine fs_iadd (pc2 := 19) rfl rfl rfl ?_
  refine fs_istore_n (pc2 := 20) rfl rfl rfl (Nat.le_of_ble_eq_true rfl) ?_
  refine fs_aload_n (pc2 := 21) rfl rfl rfl rfl ?_
  refine fs_getr (pc2 := 24) rfl rfl rfl (by assumption) rfl ?_
  refine fs_iload_n (pc2 := 25) rfl rfl rfl rfl ?_
  refine fs_aload_n (pc2 := 26) rfl rfl rfl rfl ?_
  refine fs_geti (pc2 := 29) rfl rfl rfl (by assumption) rfl ?_
  try simp (disch := omega) only [nI_lit, pk_mul, nI_add, pk_sub, pk_rem4, nI_clamp, up2_o, up2_s, up2_i, cpV_o, cpV_i, x1, e25, e26]
  refine fs_iast (pc2 := 30) rfl rfl rfl (by assumption) (vp_in_nI (by omega) (by decide)) ?_
  refine fs_iconst (pc2 := 31) rfl rfl rfl ?_
  refine fs_istore_n (pc2 := 32) rfl rfl rfl (Nat.le_of_ble_eq_true rfl) ?_
  try simp (disch := omega) only [nI_lit, pk_mul, nI_add, pk_sub, pk_rem4, nI_clamp, up2_o, up2_s, up2_i, cpV_o, cpV_i]
  have l0 := loop xs.length 0 (by omega)
  rw [cpV_0] at l0
  exact l0
set_option maxRecDepth 100000 in
set_option maxHeartbeats 4000000 in
theorem m_leaveNow (hm : isMo sh mb) (hM : Mo V mb T S (va_up HH h H)) (hh : h < 2) (hk : k < 4) (hT : ∀ i, i < 2 → T i < 2048) : fl_M cy z0 ext (d + 2) m_X7_leaveNow [.ref (z0 + mb), .int (nI h), .int (nI (4 * h + k))] sh V n (fun v sh' V' n' => v = none ∧ sh' = sh ∧ n' = n ∧ Mo V' mb (fun i => T i + 1) S (va_up HH h (ho_leave H k)) ∧ KP mb V V') := by
  have m0 := hm.1
  have a6 : sh (mb + 6) = some (.inl (1, 8, none)) := hm.2 5 (1, 8) rfl
  have a10 : sh (mb + 10) = some (.inl (1, 8, none)) := hm.2 9 (1, 8) rfl
  have a14 : sh (mb + 14) = some (.inl (1, 8, none)) := hm.2 13 (1, 8) rfl
  have hC := (hM.host hh).2.2.2.2.2.2 k hk
  have li : ho_id H ≤ 255 ∧ 0 < ho_id H := by unfold ho_id; split <;> omega
  have l9 := (hM.host hh).1.2.1
  have e4 : (4 * h + k) % 4 = k := by omega
  have l6 : (H.2.1 k).1 6 < 65536 := (hC.num (6, 10) (by decide)).2
  refine fs_body rfl rfl (fun Ret hP => ?_)
  refine fs_aload_n (pc2 := 1) rfl rfl rfl rfl ?_
  refine fs_getr (pc2 := 4) rfl rfl rfl (by assumption) rfl ?_
  refine fs_iload_n (pc2 := 5) rfl rfl rfl rfl ?_
  refine fs_iconst (pc2 := 6) rfl rfl rfl ?_
  try simp (disch := omega) only [nI_lit, pk_mul, nI_add, pk_sub, pk_rem4, nI_clamp, up2_o, up2_s, up2_i, cpV_o, cpV_i, e4]
  refine fs_iast (pc2 := 7) rfl rfl rfl (by assumption) (vp_in_nI (by omega) (by decide)) ?_
  refine fs_aload_n (pc2 := 8) rfl rfl rfl rfl ?_
  refine fs_iload_n (pc2 := 9) rfl rfl rfl rfl ?_
  try simp (disch := omega) only [nI_lit, pk_mul, nI_add, pk_sub, pk_rem4, nI_clamp, up2_o, up2_s, up2_i, cpV_o, cpV_i, e4]
  refine fs_callv (pc2 := 12) rfl rfl rfl rfl ⟨rfl, rfl⟩ (Nat.le_of_ble_eq_true rfl) (Nat.le_of_ble_eq_true rfl) (Nat.le_of_ble_eq_true rfl) (fs_rcv rfl (by assumption)) (m_dropTexts hm (by omega)) (fun v9 sh9 V9 n9 hp9 => ?_)
  obtain ⟨ea9, eb9, ec9, hv9⟩ := hp9
  cases ea9
  obtain rfl := eb9.symm
  obtain rfl := ec9.symm
  cases hv9
  have hM2 := hM.pC hh hk (FM.dropV (FM.refl.up (j := 6) (v := nI 3) (by simp [own])) (by omega)) ((hC.pI (1, 6) (v := 3) (by decide) (by decide)).drop)
  have kp2 : KP mb V (dropV (up2 V (mb + 6) (4 * h + k) (nI 3)) mb (4 * h + k)) := (KP.refl.up (by decide)).dropV
  refine fs_aload_n (pc2 := 13) rfl rfl rfl rfl ?_
  refine fs_getr (pc2 := 16) rfl rfl rfl (by assumption) rfl ?_
  refine fs_iload_n (pc2 := 17) rfl rfl rfl rfl ?_
  refine fs_aload_n (pc2 := 18) rfl rfl rfl rfl ?_
  refine fs_iload_n (pc2 := 19) rfl rfl rfl rfl ?_
  try simp (disch := omega) only [nI_lit, pk_mul, nI_add, pk_sub, pk_rem4, nI_clamp, up2_o, up2_s, up2_i, cpV_o, cpV_i, e4]
  refine fs_callv (pc2 := 22) rfl rfl rfl rfl ⟨rfl, rfl⟩ (Nat.le_of_ble_eq_true rfl) (Nat.le_of_ble_eq_true rfl) (Nat.le_of_ble_eq_true rfl) (fs_rcv rfl (by assumption)) (m_takeId hm hM2 hh) (fun v9 sh9 V9 n9 hp9 => ?_)
  obtain ⟨ea9, eb9, ec9, hM3, kp3⟩ := hp9
  cases ea9
  obtain rfl := eb9.symm
  obtain rfl := ec9.symm
  have hC3 := (hM3.host hh).2.2.2.2.2.2 k hk
  simp only [hoC, hoN, va_up_self] at hC3
  have hM4 := hM3.pC hh hk (FM.refl.up (j := 14) (i := 4 * h + k) (v := nI (ho_id H)) (by simp [own])) (hC3.pI (2, 14) (v := ho_id H) (by decide) (by omega))
  have kp4 := kp2.trans (kp3.trans (KP.refl.up (j := 14) (i := 4 * h + k) (v := nI (ho_id H)) (by decide)))
  try simp (disch := omega) only [nI_lit, pk_mul, nI_add, pk_sub, pk_rem4, nI_clamp, up2_o, up2_s, up2_i, cpV_o, cpV_i, e4]
  refine fs_iast (pc2 := 23) rfl rfl rfl (by assumption) (vp_in_nI (by omega) (by decide)) ?_
  refine fs_aload_n (pc2 := 24) rfl rfl rfl rfl ?_
  refine fs_bipush (pc2 := 26) rfl rfl rfl ?_
  refine fs_aload_n (pc2 := 27) rfl rfl rfl rfl ?_
  refine fs_getr (pc2 := 30) rfl rfl rfl (by assumption) rfl ?_
  refine fs_iload_n (pc2 := 31) rfl rfl rfl rfl ?_
  try simp (disch := omega) only [nI_lit, pk_mul, nI_add, pk_sub, pk_rem4, nI_clamp, up2_o, up2_s, up2_i, cpV_o, cpV_i, e4]
  refine fs_iald (pc2 := 32) rfl rfl rfl (by assumption) (vp_in_nI (by omega) (by decide)) ?_
  refine fs_iconst (pc2 := 33) rfl rfl rfl ?_
  try simp (disch := omega) only [nI_lit, pk_mul, nI_add, pk_sub, pk_rem4, nI_clamp, up2_o, up2_s, up2_i, cpV_o, cpV_i, e4]
  refine fs_callv (pc2 := 36) rfl rfl rfl rfl ⟨rfl, rfl⟩ (Nat.le_of_ble_eq_true rfl) (Nat.le_of_ble_eq_true rfl) (Nat.le_of_ble_eq_true rfl) (fs_rcv rfl (by assumption)) (m_begin hm hM4 (co := 6) (sid := ho_id H) (l := 4) (by decide) (by omega) (by decide)) (fun v9 sh9 V9 n9 hp9 => ?_)
  obtain ⟨ea9, eb9, ec9, hM5, hX5, kh5, kf5, ko5⟩ := hp9
  cases ea9
  obtain rfl := eb9.symm
  obtain rfl := ec9.symm
  have kp5 := kp4.trans ⟨kf5, kh5, ko5⟩
  have e10 : V9 (mb + 10) (4 * h + k) = nI ((H.2.1 k).1 6) := by
    have := (MC.num ((hM5.host hh).2.2.2.2.2.2 k hk) (6, 10) (by decide)).1
    simpa [va_up, ch_drop] using this
  refine fs_aload_n (pc2 := 37) rfl rfl rfl rfl ?_
  refine fs_aload_n (pc2 := 38) rfl rfl rfl rfl ?_
  refine fs_getr (pc2 := 41) rfl rfl rfl (by assumption) rfl ?_
  refine fs_iload_n (pc2 := 42) rfl rfl rfl rfl ?_
  try simp (disch := omega) only [nI_lit, pk_mul, nI_add, pk_sub, pk_rem4, nI_clamp, up2_o, up2_s, up2_i, cpV_o, cpV_i, e4, e10]
  refine fs_iald (pc2 := 43) rfl rfl rfl (by assumption) (vp_in_nI (by omega) (by decide)) ?_
  try simp (disch := omega) only [nI_lit, pk_mul, nI_add, pk_sub, pk_rem4, nI_clamp, up2_o, up2_s, up2_i, cpV_o, cpV_i, e4, e10]
  refine fs_callv (pc2 := 46) rfl rfl rfl rfl ⟨rfl, rfl⟩ (Nat.le_of_ble_eq_true rfl) (Nat.le_of_ble_eq_true rfl) (Nat.le_of_ble_eq_true rfl) (fs_rcv rfl (by assumption)) (m_two hm hM5 hX5 (by simp) l6) (fun v9 sh9 V9 n9 hp9 => ?_)
  obtain ⟨ea9, eb9, ec9, hM6, hX6, kh6, kf6, ko6⟩ := hp9
  cases ea9
  obtain rfl := eb9.symm
  obtain rfl := ec9.symm
  have kp6 := kp5.trans ⟨kf6, kh6, ko6⟩
  refine fs_aload_n (pc2 := 47) rfl rfl rfl rfl ?_
  refine fs_bipush (pc2 := 49) rfl rfl rfl ?_
  refine fs_iload_n (pc2 := 50) rfl rfl rfl rfl ?_
  refine fs_iconst (pc2 := 51) rfl rfl rfl ?_
  refine fs_irem (pc2 := 52) rfl rfl rfl (by decide) ?_
  refine fs_iadd (pc2 := 53) rfl rfl rfl ?_
  try simp (disch := omega) only [nI_lit, pk_mul, nI_add, pk_sub, pk_rem4, nI_clamp, up2_o, up2_s, up2_i, cpV_o, cpV_i, e4, e10]
  refine fs_callv (pc2 := 56) rfl rfl rfl rfl ⟨rfl, rfl⟩ (Nat.le_of_ble_eq_true rfl) (Nat.le_of_ble_eq_true rfl) (Nat.le_of_ble_eq_true rfl) (fs_rcv rfl (by assumption)) (m_two hm hM6 hX6 (by simp) (k := 64 + k) (by omega)) (fun v9 sh9 V9 n9 hp9 => ?_)
  obtain ⟨ea9, eb9, ec9, hM7, hX7, kh7, kf7, ko7⟩ := hp9
  cases ea9
  obtain rfl := eb9.symm
  obtain rfl := ec9.symm
  have kp7 := kp6.trans ⟨kf7, kh7, ko7⟩
  refine fs_aload_n (pc2 := 57) rfl rfl rfl rfl ?_
  refine fs_iload_n (pc2 := 58) rfl rfl rfl rfl ?_
  try simp (disch := omega) only [nI_lit, pk_mul, nI_add, pk_sub, pk_rem4, nI_clamp, up2_o, up2_s, up2_i, cpV_o, cpV_i, e4, e10]
  refine fs_callv (pc2 := 61) rfl rfl rfl rfl ⟨rfl, rfl⟩ (Nat.le_of_ble_eq_true rfl) (Nat.le_of_ble_eq_true rfl) (Nat.le_of_ble_eq_true rfl) (fs_rcv rfl (by assumption)) (m_wait hm hM7 hh hX7 (by simp) hT) (fun v9 sh9 V9 n9 hp9 => ?_)
  obtain ⟨ea9, eb9, ec9, hM8, kp8⟩ := hp9
  cases ea9
  obtain rfl := eb9.symm
  obtain rfl := ec9.symm
  try simp (disch := omega) only [nI_lit, pk_mul, nI_add, pk_sub, pk_rem4, nI_clamp, up2_o, up2_s, up2_i, cpV_o, cpV_i, e4, e10]
  refine fs_ret rfl rfl ?_
  have eC : (va_up (va_up (va_up (H.2.1 k).1 1 3) 11 0) 2 (ho_id H)) = va_up (va_up (va_up (H.2.1 k).1 1 3) 2 (ho_id H)) 11 0 := va_up_swap (by decide)
  refine hP _ _ _ _ ⟨rfl, rfl, rfl, ?_, kp7.trans kp8⟩
  unfold ho_leave ch_leave
  rw [← eC]
  simp only [hoC, hoN, hoQ, va_up2] at hM8 ⊢
  exact hM8
set_option maxRecDepth 100000 in
set_option maxHeartbeats 4000000 in
theorem m_firstClosed (hm : isMo sh mb) (hM : Mo V mb T S (va_up HH h H)) (hh : h < 2) : fl_M cy z0 ext (d + 1) m_X7_firstClosed [.ref (z0 + mb), .int (nI h)] sh V n (fun v sh' V' n' => v = some (.int (match ho_closed H with | some k => nI (4 * h + k) | none => -1)) ∧ sh' = sh ∧ n' = n ∧ V' = V) := by
  have m0 := hm.1
  have a6 : sh (mb + 6) = some (.inl (1, 8, none)) := hm.2 5 (1, 8) rfl
  have hC := fun i hi => (((hM.host hh).2.2.2.2.2.2 i hi).num (1, 6) (by decide)).1
  have hC2 := fun i hi => (((hM.host hh).2.2.2.2.2.2 i hi).num (1, 6) (by decide)).2
  dsimp only at hC hC2
  refine fs_body rfl rfl (fun Ret hP => ?_)
  have loop : ∀ j i, i + j = 4 → (∀ q, q < i → ((H.2.1 q).1 1 == 0) = false) → fl_R cy z0 (ev_M cy ext d) 7 0 0 3 (some .int) kc_X7_firstClosed Ret 4 [(0, .ref (z0 + mb)), (1, .int (nI h)), (2, .int (nI (4 * h + i)))] [] sh V n 0 0 := by
    intro j
    induction j with
    | zero =>
      intro i hi hn
      have hi2 : i = 4 := by omega
      subst hi2
      rw [show ho_closed H = none from first4_none hn] at hP
      refine fs_iload_n (pc2 := 5) rfl rfl rfl rfl ?_
      refine fs_iconst (pc2 := 6) rfl rfl rfl ?_
      refine fs_iload_n (pc2 := 7) rfl rfl rfl rfl ?_
      refine fs_imul (pc2 := 8) rfl rfl rfl ?_
      refine fs_iconst (pc2 := 9) rfl rfl rfl ?_
      refine fs_iadd (pc2 := 10) rfl rfl rfl ?_
      try simp (disch := omega) only [nI_lit, pk_mul, nI_add, pk_sub, pk_rem4, nI_clamp, up2_o, up2_s, up2_i, cpV_o, cpV_i]
      refine fs_icmp_ge (pc2 := 13) rfl rfl rfl (fun h10 => ?_) (fun h10 => ?_)
      · refine fs_iconst (pc2 := 31) rfl rfl rfl ?_
        try simp (disch := omega) only [nI_lit, pk_mul, nI_add, pk_sub, pk_rem4, nI_clamp, up2_o, up2_s, up2_i, cpV_o, cpV_i]
        refine fs_iret rfl rfl True.intro ?_
        exact hP _ _ _ _ ⟨rfl, rfl, rfl, rfl⟩
      · have := c_lt (a := 4 * h + 4) (b := 4 * h + 4) h10 rfl rfl
        omega
    | succ j ih =>
      intro i hi hn
      have e6 := hC i (by omega)
      have l6 := hC2 i (by omega)
      refine fs_iload_n (pc2 := 5) rfl rfl rfl rfl ?_
      refine fs_iconst (pc2 := 6) rfl rfl rfl ?_
      refine fs_iload_n (pc2 := 7) rfl rfl rfl rfl ?_
      refine fs_imul (pc2 := 8) rfl rfl rfl ?_
      refine fs_iconst (pc2 := 9) rfl rfl rfl ?_
      refine fs_iadd (pc2 := 10) rfl rfl rfl ?_
      try simp (disch := omega) only [nI_lit, pk_mul, nI_add, pk_sub, pk_rem4, nI_clamp, up2_o, up2_s, up2_i, cpV_o, cpV_i, e6]
      refine fs_icmp_ge (pc2 := 13) rfl rfl rfl (fun h10 => ?_) (fun h10 => ?_)
      · have := c_nlt (a := 4 * h + i) (b := 4 * h + 4) h10 rfl rfl
        omega
      · refine fs_aload_n (pc2 := 14) rfl rfl rfl rfl ?_
        refine fs_getr (pc2 := 17) rfl rfl rfl (by assumption) rfl ?_
        refine fs_iload_n (pc2 := 18) rfl rfl rfl rfl ?_
        try simp (disch := omega) only [nI_lit, pk_mul, nI_add, pk_sub, pk_rem4, nI_clamp, up2_o, up2_s, up2_i, cpV_o, cpV_i, e6]
        refine fs_iald (pc2 := 19) rfl rfl rfl (by assumption) (vp_in_nI (by omega) (by decide)) ?_
        try simp (disch := omega) only [nI_lit, pk_mul, nI_add, pk_sub, pk_rem4, nI_clamp, up2_o, up2_s, up2_i, cpV_o, cpV_i, e6]
        refine fs_if_ne (pc2 := 22) rfl rfl rfl (fun h19 => ?_) (fun h19 => ?_)
        · have k19 : (H.2.1 i).1 1 ≠ 0 := c_ne (b := 0) h19 rfl rfl
          refine fs_iinc (pc2 := 27) rfl rfl rfl (Nat.le_of_ble_eq_true rfl) rfl ?_
          refine fs_goto rfl rfl ?_
          try simp (disch := omega) only [nI_lit, pk_mul, nI_add, pk_sub, pk_rem4, nI_clamp, up2_o, up2_s, up2_i, cpV_o, cpV_i]
          refine ih (i + 1) (by omega) (fun q hq => ?_)
          by_cases z : q = i
          · subst z; simp [k19]
          · exact hn q (by omega)
        · have k19 : (H.2.1 i).1 1 = 0 := c_eq (b := 0) h19 rfl rfl
          rw [show ho_closed H = some i from first4_some (p := fun j => (H.2.1 j).1 1 == 0) (by omega) (by simp [k19]) hn] at hP
          refine fs_iload_n (pc2 := 23) rfl rfl rfl rfl ?_
          try simp (disch := omega) only [nI_lit, pk_mul, nI_add, pk_sub, pk_rem4, nI_clamp, up2_o, up2_s, up2_i, cpV_o, cpV_i, e6]
          refine fs_iret rfl rfl True.intro ?_
          exact hP _ _ _ _ ⟨rfl, rfl, rfl, rfl⟩
  refine fs_iconst (pc2 := 1) rfl rfl rfl ?_
  refine fs_iload_n (pc2 := 2) rfl rfl rfl rfl ?_
  refine fs_imul (pc2 := 3) rfl rfl rfl ?_
  refine fs_istore_n (pc2 := 4) rfl rfl rfl (Nat.le_of_ble_eq_true rfl) ?_
  try simp (disch := omega) only [nI_lit, pk_mul, nI_add, pk_sub, pk_rem4, nI_clamp, up2_o, up2_s, up2_i, cpV_o, cpV_i]
  exact loop 4 0 (by omega) (fun q hq => by omega)
set_option maxRecDepth 100000 in
set_option maxHeartbeats 4000000 in
theorem m_buffersOf (hm : isMo sh mb) {ho : Nat} {W : List Pkt} (h1 : h + ho = 1) (hW : MW V mb ho W) (h4 : sents W ≤ 4) : fl_M cy z0 ext (d + 1) m_X7_buffersOf [.ref (z0 + mb), .int (nI h)] sh V n (fun v sh' V' n' => v = some (.int (nI (4 - sents W))) ∧ sh' = sh ∧ n' = n ∧ V' = V) := by
  have m0 := hm.1
  have a34 : sh (mb + 34) = some (.inl (1, 2, none)) := hm.2 33 (1, 2) rfl
  have a37 : sh (mb + 37) = some (.inl (2, 64, none)) := hm.2 36 (2, 64) rfl
  obtain ⟨e34, lW, pW⟩ := id hW
  have e1 : 1 - h = ho := by omega
  refine fs_body rfl rfl (fun Ret hP => ?_)
  have loop : ∀ j i, i + j = W.length → fl_R cy z0 (ev_M cy ext d) 7 0 0 4 (some .int) kc_X7_buffersOf Ret 4 [(0, .ref (z0 + mb)), (1, .int (nI h)), (2, .int (nI (4 - sents (W.take i)))), (3, .int (nI i))] [] sh V n 0 0 := by
    intro j
    induction j with
    | zero =>
      intro i hi
      have hi2 : i = W.length := by omega
      subst hi2
      rw [List.take_of_length_le (Nat.le_refl _)]
      refine fs_iload_n (pc2 := 5) rfl rfl rfl rfl ?_
      refine fs_aload_n (pc2 := 6) rfl rfl rfl rfl ?_
      refine fs_getr (pc2 := 9) rfl rfl rfl (by assumption) rfl ?_
      refine fs_iconst (pc2 := 10) rfl rfl rfl ?_
      refine fs_iload_n (pc2 := 11) rfl rfl rfl rfl ?_
      refine fs_isub (pc2 := 12) rfl rfl rfl ?_
      try simp (disch := omega) only [nI_lit, pk_mul, nI_add, pk_sub, pk_rem4, nI_clamp, up2_o, up2_s, up2_i, cpV_o, cpV_i, e1, e34]
      refine fs_iald (pc2 := 13) rfl rfl rfl (by assumption) (vp_in_nI (by omega) (by decide)) ?_
      try simp (disch := omega) only [nI_lit, pk_mul, nI_add, pk_sub, pk_rem4, nI_clamp, up2_o, up2_s, up2_i, cpV_o, cpV_i, e1, e34]
      refine fs_icmp_ge (pc2 := 16) rfl rfl rfl (fun h13 => ?_) (fun h13 => ?_)
      · refine fs_iload_n (pc2 := 47) rfl rfl rfl rfl ?_
        try simp (disch := omega) only [nI_lit, pk_mul, nI_add, pk_sub, pk_rem4, nI_clamp, up2_o, up2_s, up2_i, cpV_o, cpV_i, e1, e34]
        refine fs_iret rfl rfl True.intro ?_
        exact hP _ _ _ _ ⟨rfl, rfl, rfl, rfl⟩
      · have := c_lt (a := W.length) (b := W.length) h13 rfl rfl
        omega
    | succ j ih =>
      intro i hi
      have hW2 : W[i]? = some (W[i]'(by omega)) := List.getElem?_eq_getElem (by omega)
      obtain ⟨b1, b2, e37, b4, b5⟩ := pW i _ hW2
      have es := sents_take hW2
      have le2 := sents_take_le (W := W) (i := i + 1)
      refine fs_iload_n (pc2 := 5) rfl rfl rfl rfl ?_
      refine fs_aload_n (pc2 := 6) rfl rfl rfl rfl ?_
      refine fs_getr (pc2 := 9) rfl rfl rfl (by assumption) rfl ?_
      refine fs_iconst (pc2 := 10) rfl rfl rfl ?_
      refine fs_iload_n (pc2 := 11) rfl rfl rfl rfl ?_
      refine fs_isub (pc2 := 12) rfl rfl rfl ?_
      try simp (disch := omega) only [nI_lit, pk_mul, nI_add, pk_sub, pk_rem4, nI_clamp, up2_o, up2_s, up2_i, cpV_o, cpV_i, e1, e34, e37]
      refine fs_iald (pc2 := 13) rfl rfl rfl (by assumption) (vp_in_nI (by omega) (by decide)) ?_
      try simp (disch := omega) only [nI_lit, pk_mul, nI_add, pk_sub, pk_rem4, nI_clamp, up2_o, up2_s, up2_i, cpV_o, cpV_i, e1, e34, e37]
      refine fs_icmp_ge (pc2 := 16) rfl rfl rfl (fun h13 => ?_) (fun h13 => ?_)
      · have := c_nlt (a := i) (b := W.length) h13 rfl rfl
        omega
      · refine fs_aload_n (pc2 := 17) rfl rfl rfl rfl ?_
        refine fs_getr (pc2 := 20) rfl rfl rfl (by assumption) rfl ?_
        refine fs_bipush (pc2 := 22) rfl rfl rfl ?_
        refine fs_iconst (pc2 := 23) rfl rfl rfl ?_
        refine fs_iload_n (pc2 := 24) rfl rfl rfl rfl ?_
        refine fs_isub (pc2 := 25) rfl rfl rfl ?_
        refine fs_imul (pc2 := 26) rfl rfl rfl ?_
        refine fs_iload_n (pc2 := 27) rfl rfl rfl rfl ?_
        refine fs_iadd (pc2 := 28) rfl rfl rfl ?_
        try simp (disch := omega) only [nI_lit, pk_mul, nI_add, pk_sub, pk_rem4, nI_clamp, up2_o, up2_s, up2_i, cpV_o, cpV_i, e1, e34, e37]
        refine fs_bald (pc2 := 29) rfl rfl rfl rfl (by assumption) (vp_in_nI (by omega) (by decide)) ?_
        try simp (disch := omega) only [nI_lit, pk_mul, nI_add, pk_sub, pk_rem4, nI_clamp, up2_o, up2_s, up2_i, cpV_o, cpV_i, e1, e34, e37]
        refine fs_if_eq (pc2 := 32) rfl rfl rfl (fun h29 => ?_) (fun h29 => ?_)
        · rw [show (W[i]'(by omega)).2.1 = false from bI_0.mp h29] at es
          refine fs_iload_n (pc2 := 39) rfl rfl rfl rfl ?_
          refine fs_istore_n (pc2 := 40) rfl rfl rfl (Nat.le_of_ble_eq_true rfl) ?_
          refine fs_iinc (pc2 := 43) rfl rfl rfl (Nat.le_of_ble_eq_true rfl) rfl ?_
          refine fs_goto rfl rfl ?_
          simp only [Bool.false_eq_true, if_false, if_true, Nat.add_zero] at es
          try simp (disch := omega) only [nI_lit, pk_mul, nI_add, pk_sub, pk_rem4, nI_clamp, up2_o, up2_s, up2_i, cpV_o, cpV_i]
          have ih2 := ih (i + 1) (by omega)
          rw [es] at ih2
          exact ih2
        · rw [show (W[i]'(by omega)).2.1 = true from by
            cases hb2 : (W[i]'(by omega)).2.1 with
            | true => rfl
            | false => rw [hb2] at h29; exact absurd rfl h29] at es
          refine fs_iload_n (pc2 := 33) rfl rfl rfl rfl ?_
          refine fs_iconst (pc2 := 34) rfl rfl rfl ?_
          refine fs_isub (pc2 := 35) rfl rfl rfl ?_
          refine fs_goto rfl rfl ?_
          refine fs_istore_n (pc2 := 40) rfl rfl rfl (Nat.le_of_ble_eq_true rfl) ?_
          refine fs_iinc (pc2 := 43) rfl rfl rfl (Nat.le_of_ble_eq_true rfl) rfl ?_
          refine fs_goto rfl rfl ?_
          simp only [Bool.false_eq_true, if_false, if_true, Nat.add_zero] at es
          try simp (disch := omega) only [nI_lit, pk_mul, nI_add, pk_sub, pk_rem4, nI_clamp, up2_o, up2_s, up2_i, cpV_o, cpV_i]
          have ih2 := ih (i + 1) (by omega)
          rw [es, ← Nat.sub_sub] at ih2
          exact ih2
  refine fs_iconst (pc2 := 1) rfl rfl rfl ?_
  refine fs_istore_n (pc2 := 2) rfl rfl rfl (Nat.le_of_ble_eq_true rfl) ?_
  refine fs_iconst (pc2 := 3) rfl rfl rfl ?_
  refine fs_istore_n (pc2 := 4) rfl rfl rfl (Nat.le_of_ble_eq_true rfl) ?_
  try simp (disch := omega) only [nI_lit, pk_mul, nI_add, pk_sub, pk_rem4, nI_clamp, up2_o, up2_s, up2_i, cpV_o, cpV_i]
  exact loop W.length 0 (by omega)
set_option maxRecDepth 100000 in
set_option maxHeartbeats 4000000 in
theorem m_post (hm : isMo sh mb) {ho f m : Nat} {W : List Pkt} {B : List Nat} {mk ow : Bool} (h1 : h + ho = 1) (hW : MW V mb ho W) (lW : W.length < 32) (hB : ML (V (mb + 33)) (160 * h) B) (lB : B.length ≤ 128) (hf : f + m ≤ B.length) (hm27 : m ≤ 27) : fl_M cy z0 ext (d + 1) m_X7_post [.ref (z0 + mb), .int (nI ho), .int (nI f), .int (nI m), .int (bI mk), .int (bI ow), .int (nI h)] sh V n (fun v sh' V' n' => v = none ∧ sh' = sh ∧ n' = n ∧ MW V' mb ho (W ++ [(mk, ow, (B.drop f).take m)]) ∧ FM mb (12 + ho) V V' ∧ KP mb V V') := by
  have m0 := hm.1
  have a33 : sh (mb + 33) = some (.inl (1, 320, none)) := hm.2 32 (1, 320) rfl
  have a34 : sh (mb + 34) = some (.inl (1, 2, none)) := hm.2 33 (1, 2) rfl
  have a35 : sh (mb + 35) = some (.inl (1, 64, none)) := hm.2 34 (1, 64) rfl
  have a36 : sh (mb + 36) = some (.inl (2, 64, none)) := hm.2 35 (2, 64) rfl
  have a37 : sh (mb + 37) = some (.inl (2, 64, none)) := hm.2 36 (2, 64) rfl
  have a38 : sh (mb + 38) = some (.inl (1, 1728, none)) := hm.2 37 (1, 1728) rfl
  obtain ⟨e34, lW2, pW⟩ := id hW
  obtain ⟨p, hp⟩ : ∃ p, p = 32 * ho + W.length := ⟨_, rfl⟩
  have bmk : ev_bn 7 (bI mk) = bI mk := by cases mk <;> rfl
  have bow : ev_bn 7 (bI ow) = bI ow := by cases ow <;> rfl
  refine fs_body rfl rfl (fun Ret hP => ?_)
  have loop : ∀ j i, i + j = m → fl_R cy z0 (ev_M cy ext d) 7 0 0 9 none kc_X7_post Ret 42 [(0, .ref (z0 + mb)), (1, .int (nI ho)), (2, .int (nI f)), (3, .int (nI m)), (4, .int (bI mk)), (5, .int (bI ow)), (6, .int (nI h)), (7, .int (nI p)), (8, .int (nI i))] [] sh (cpV (up2 (up2 (up2 V (mb + 35) p (nI m)) (mb + 36) p (bI mk)) (mb + 37) p (bI ow)) (mb + 38) (27 * p) i (fun j => V (mb + 33) (160 * h + f + j))) n 0 0 := by
    intro j
    induction j with
    | zero =>
      intro i hi
      have hi2 : i = m := by omega
      subst hi2
      refine fs_iload (pc2 := 44) rfl rfl rfl rfl ?_
      refine fs_iload_n (pc2 := 45) rfl rfl rfl rfl ?_
      try simp (disch := omega) only [nI_lit, pk_mul, nI_add, pk_sub, pk_rem4, nI_clamp, up2_o, up2_s, up2_i, cpV_o, cpV_i, e34]
      refine fs_icmp_ge (pc2 := 48) rfl rfl rfl (fun h45 => ?_) (fun h45 => ?_)
      · refine fs_aload_n (pc2 := 84) rfl rfl rfl rfl ?_
        refine fs_getr (pc2 := 87) rfl rfl rfl (by assumption) rfl ?_
        refine fs_iload_n (pc2 := 88) rfl rfl rfl rfl ?_
        refine fs_dup2 (pc2 := 89) rfl rfl rfl ?_
        try simp (disch := omega) only [nI_lit, pk_mul, nI_add, pk_sub, pk_rem4, nI_clamp, up2_o, up2_s, up2_i, cpV_o, cpV_i, e34]
        refine fs_iald (pc2 := 90) rfl rfl rfl (by assumption) (vp_in_nI (by omega) (by decide)) ?_
        refine fs_iconst (pc2 := 91) rfl rfl rfl ?_
        refine fs_iadd (pc2 := 92) rfl rfl rfl ?_
        try simp (disch := omega) only [nI_lit, pk_mul, nI_add, pk_sub, pk_rem4, nI_clamp, up2_o, up2_s, up2_i, cpV_o, cpV_i, e34]
        refine fs_iast (pc2 := 93) rfl rfl rfl (by assumption) (vp_in_nI (by omega) (by decide)) ?_
        try simp (disch := omega) only [nI_lit, pk_mul, nI_add, pk_sub, pk_rem4, nI_clamp, up2_o, up2_s, up2_i, cpV_o, cpV_i, e34]
        refine fs_ret rfl rfl ?_
        refine hP _ _ _ _ ⟨rfl, rfl, rfl, ⟨?_, ?_, fun q y hq => ?_⟩, ((((FM.refl.up (j := 35) (by simp [own] <;> omega)).up (j := 36) (by simp [own] <;> omega)).up (j := 37) (by simp [own] <;> omega)).cp (j := 38) (fun x a1 a2 => by simp [own] <;> omega)).up (j := 34) (by simp [own]), ((((KP.refl.up (by decide)).up (by decide)).up (by decide)).cp (by decide)).up (by decide)⟩
        · rw [up2_s]; simp
        · simp; omega
        · have lq := (List.getElem?_eq_some_iff.mp hq).1
          simp at lq
          simp (disch := omega) only [up2_o, cpV_o]
          by_cases z : q < W.length
          · rw [List.getElem?_append_left z] at hq
            obtain ⟨a1, a2, a3, a4, a5⟩ := pW q y hq
            simp (disch := omega) only [up2_o, up2_i]
            exact ⟨a1, a2, a3, a4, a5.kept (fun j hj => by rw [cpV_i (by omega)]; simp (disch := omega) only [up2_o])⟩
          · have e : q = W.length := by omega
            subst e
            simp at hq
            subst hq
            have le : ((B.drop f).take i).length = i := by simp; omega
            rw [← hp]
            dsimp only
            simp (disch := omega) only [up2_o, up2_s]
            refine ⟨by rw [le], trivial, trivial, by omega, fun j b hj => ?_⟩
            have lj := (List.getElem?_eq_some_iff.mp hj).1
            rw [cpV_s (by omega), Nat.add_sub_cancel_left, Nat.add_assoc]
            refine hB (f + j) b ?_
            rw [List.getElem?_take_of_lt (by omega), List.getElem?_drop] at hj
            exact hj
      · have := c_lt (a := i) (b := i) h45 rfl rfl
        omega
    | succ j ih =>
      intro i hi
      refine fs_iload (pc2 := 44) rfl rfl rfl rfl ?_
      refine fs_iload_n (pc2 := 45) rfl rfl rfl rfl ?_
      try simp (disch := omega) only [nI_lit, pk_mul, nI_add, pk_sub, pk_rem4, nI_clamp, up2_o, up2_s, up2_i, cpV_o, cpV_i]
      refine fs_icmp_ge (pc2 := 48) rfl rfl rfl (fun h45 => ?_) (fun h45 => ?_)
      · have := c_nlt (a := i) (b := m) h45 rfl rfl
        omega
      · refine fs_aload_n (pc2 := 49) rfl rfl rfl rfl ?_
        refine fs_getr (pc2 := 52) rfl rfl rfl (by assumption) rfl ?_
        refine fs_bipush (pc2 := 54) rfl rfl rfl ?_
        refine fs_iload (pc2 := 56) rfl rfl rfl rfl ?_
        refine fs_imul (pc2 := 57) rfl rfl rfl ?_
        refine fs_iload (pc2 := 59) rfl rfl rfl rfl ?_
        refine fs_iadd (pc2 := 60) rfl rfl rfl ?_
        refine fs_aload_n (pc2 := 61) rfl rfl rfl rfl ?_
        refine fs_getr (pc2 := 64) rfl rfl rfl (by assumption) rfl ?_
        refine fs_sipush (pc2 := 67) rfl rfl rfl ?_
        refine fs_iload (pc2 := 69) rfl rfl rfl rfl ?_
        refine fs_imul (pc2 := 70) rfl rfl rfl ?_
        refine fs_iload_n (pc2 := 71) rfl rfl rfl rfl ?_
        refine fs_iadd (pc2 := 72) rfl rfl rfl ?_
        refine fs_iload (pc2 := 74) rfl rfl rfl rfl ?_
        refine fs_iadd (pc2 := 75) rfl rfl rfl ?_
        try simp (disch := omega) only [nI_lit, pk_mul, nI_add, pk_sub, pk_rem4, nI_clamp, up2_o, up2_s, up2_i, cpV_o, cpV_i]
        refine fs_iald (pc2 := 76) rfl rfl rfl (by assumption) (vp_in_nI (by omega) (by decide)) ?_
        try simp (disch := omega) only [nI_lit, pk_mul, nI_add, pk_sub, pk_rem4, nI_clamp, up2_o, up2_s, up2_i, cpV_o, cpV_i]
        refine fs_iast (pc2 := 77) rfl rfl rfl (by assumption) (vp_in_nI (by omega) (by decide)) ?_
        refine fs_iinc (pc2 := 80) rfl rfl rfl (Nat.le_of_ble_eq_true rfl) rfl ?_
        refine fs_goto rfl rfl ?_
        try simp (disch := omega) only [nI_lit, pk_mul, nI_add, pk_sub, pk_rem4, nI_clamp, up2_o, up2_s, up2_i, cpV_o, cpV_i]
        rw [cpV_1 (by rw [Nat.add_assoc])]
        exact ih (i + 1) (by omega)
  refine fs_bipush (pc2 := 2) rfl rfl rfl ?_
  refine fs_iload_n (pc2 := 3) rfl rfl rfl rfl ?_
  refine fs_imul (pc2 := 4) rfl rfl rfl ?_
  refine fs_aload_n (pc2 := 5) rfl rfl rfl rfl ?_
  refine fs_getr (pc2 := 8) rfl rfl rfl (by assumption) rfl ?_
  refine fs_iload_n (pc2 := 9) rfl rfl rfl rfl ?_
  try simp (disch := omega) only [nI_lit, pk_mul, nI_add, pk_sub, pk_rem4, nI_clamp, up2_o, up2_s, up2_i, cpV_o, cpV_i, e34, bmk, bow]
  refine fs_iald (pc2 := 10) rfl rfl rfl (by assumption) (vp_in_nI (by omega) (by decide)) ?_
  refine fs_iadd (pc2 := 11) rfl rfl rfl ?_
  refine fs_istore (pc2 := 13) rfl rfl rfl (Nat.le_of_ble_eq_true rfl) ?_
  refine fs_aload_n (pc2 := 14) rfl rfl rfl rfl ?_
  refine fs_getr (pc2 := 17) rfl rfl rfl (by assumption) rfl ?_
  refine fs_iload (pc2 := 19) rfl rfl rfl rfl ?_
  refine fs_iload_n (pc2 := 20) rfl rfl rfl rfl ?_
  try simp (disch := omega) only [nI_lit, pk_mul, nI_add, pk_sub, pk_rem4, nI_clamp, up2_o, up2_s, up2_i, cpV_o, cpV_i, e34, bmk, bow]
  refine fs_iast (pc2 := 21) rfl rfl rfl (by assumption) (vp_in_nI (by omega) (by decide)) ?_
  refine fs_aload_n (pc2 := 22) rfl rfl rfl rfl ?_
  refine fs_getr (pc2 := 25) rfl rfl rfl (by assumption) rfl ?_
  refine fs_iload (pc2 := 27) rfl rfl rfl rfl ?_
  refine fs_iload (pc2 := 29) rfl rfl rfl rfl ?_
  try simp (disch := omega) only [nI_lit, pk_mul, nI_add, pk_sub, pk_rem4, nI_clamp, up2_o, up2_s, up2_i, cpV_o, cpV_i, e34, bmk, bow]
  refine fs_bast (pc2 := 30) rfl rfl rfl rfl (by assumption) (vp_in_nI (by omega) (by decide)) ?_
  refine fs_aload_n (pc2 := 31) rfl rfl rfl rfl ?_
  refine fs_getr (pc2 := 34) rfl rfl rfl (by assumption) rfl ?_
  refine fs_iload (pc2 := 36) rfl rfl rfl rfl ?_
  refine fs_iload (pc2 := 38) rfl rfl rfl rfl ?_
  try simp (disch := omega) only [nI_lit, pk_mul, nI_add, pk_sub, pk_rem4, nI_clamp, up2_o, up2_s, up2_i, cpV_o, cpV_i, e34, bmk, bow]
  refine fs_bast (pc2 := 39) rfl rfl rfl rfl (by assumption) (vp_in_nI (by omega) (by decide)) ?_
  refine fs_iconst (pc2 := 40) rfl rfl rfl ?_
  refine fs_istore (pc2 := 42) rfl rfl rfl (Nat.le_of_ble_eq_true rfl) ?_
  try simp (disch := omega) only [nI_lit, pk_mul, nI_add, pk_sub, pk_rem4, nI_clamp, up2_o, up2_s, up2_i, cpV_o, cpV_i, bmk, bow]
  rw [← hp]
  have l0 := loop m 0 (by omega)
  rw [cpV_0] at l0
  exact l0
set_option maxRecDepth 100000 in
set_option maxHeartbeats 4000000 in
theorem m_unitHead (hm : isMo sh mb) (hM : Mo V mb T S (va_up HH h H)) (hh : h < 2) {l num : Nat} (hl : l < 65536) (hn : num < 65536) : fl_M cy z0 ext (d + 1) m_X7_unitHead [.ref (z0 + mb), .int (nI h), .int (nI l), .int (nI num)] sh V n (fun v sh' V' n' => v = none ∧ sh' = sh ∧ n' = n ∧ Mo V' mb T S (va_up HH h (hoB (hoN H 7 0) (two l ++ two num))) ∧ FM mb (16 + h) V V' ∧ KP mb V V') := by
  have m0 := hm.1
  have a31 : sh (mb + 31) = some (.inl (1, 2, none)) := hm.2 30 (1, 2) rfl
  have a32 : sh (mb + 32) = some (.inl (1, 2, none)) := hm.2 31 (1, 2) rfl
  have a33 : sh (mb + 33) = some (.inl (1, 320, none)) := hm.2 32 (1, 320) rfl
  obtain ⟨g1, g2, g3, g4, g5⟩ := id (hM.host hh).2.2.2.2.1
  have w1 : nI l &&& nI 255 = nI (l % 256) := nI_255 (by omega)
  have w2 : (nI l >>> (nI 8 &&& nI 31)) = nI (l / 256) := nI_shr8 (by omega)
  have w3 : nI num &&& nI 255 = nI (num % 256) := nI_255 (by omega)
  have w4 : (nI num >>> (nI 8 &&& nI 31)) = nI (num / 256) := nI_shr8 (by omega)
  have w5 : nI (l / 256) &&& nI 255 = nI (l / 256) := by rw [show nI 255 = (255 : Int32) from rfl, nI_255 (by omega), Nat.mod_eq_of_lt (by omega)]
  have w6 : nI (num / 256) &&& nI 255 = nI (num / 256) := by rw [show nI 255 = (255 : Int32) from rfl, nI_255 (by omega), Nat.mod_eq_of_lt (by omega)]
  refine fs_body rfl rfl (fun Ret hP => ?_)
  refine fs_sipush (pc2 := 3) rfl rfl rfl ?_
  refine fs_iload_n (pc2 := 4) rfl rfl rfl rfl ?_
  refine fs_imul (pc2 := 5) rfl rfl rfl ?_
  refine fs_istore (pc2 := 7) rfl rfl rfl (Nat.le_of_ble_eq_true rfl) ?_
  refine fs_aload_n (pc2 := 8) rfl rfl rfl rfl ?_
  refine fs_getr (pc2 := 11) rfl rfl rfl (by assumption) rfl ?_
  refine fs_iload (pc2 := 13) rfl rfl rfl rfl ?_
  refine fs_iload_n (pc2 := 14) rfl rfl rfl rfl ?_
  refine fs_sipush (pc2 := 17) rfl rfl rfl ?_
  refine fs_iand (pc2 := 18) rfl rfl rfl ?_
  try simp (disch := omega) only [nI_lit, pk_mul, nI_add, pk_sub, pk_rem4, nI_clamp, up2_o, up2_s, up2_i, cpV_o, cpV_i, w1, w2, w3, w4, w5, w6]
  refine fs_iast (pc2 := 19) rfl rfl rfl (by assumption) (vp_in_nI (by omega) (by decide)) ?_
  refine fs_aload_n (pc2 := 20) rfl rfl rfl rfl ?_
  refine fs_getr (pc2 := 23) rfl rfl rfl (by assumption) rfl ?_
  refine fs_iload (pc2 := 25) rfl rfl rfl rfl ?_
  refine fs_iconst (pc2 := 26) rfl rfl rfl ?_
  refine fs_iadd (pc2 := 27) rfl rfl rfl ?_
  refine fs_iload_n (pc2 := 28) rfl rfl rfl rfl ?_
  refine fs_bipush (pc2 := 30) rfl rfl rfl ?_
  refine fs_ishr (pc2 := 31) rfl rfl rfl ?_
  refine fs_sipush (pc2 := 34) rfl rfl rfl ?_
  refine fs_iand (pc2 := 35) rfl rfl rfl ?_
  try simp (disch := omega) only [nI_lit, pk_mul, nI_add, pk_sub, pk_rem4, nI_clamp, up2_o, up2_s, up2_i, cpV_o, cpV_i, w1, w2, w3, w4, w5, w6]
  refine fs_iast (pc2 := 36) rfl rfl rfl (by assumption) (vp_in_nI (by omega) (by decide)) ?_
  refine fs_aload_n (pc2 := 37) rfl rfl rfl rfl ?_
  refine fs_getr (pc2 := 40) rfl rfl rfl (by assumption) rfl ?_
  refine fs_iload (pc2 := 42) rfl rfl rfl rfl ?_
  refine fs_iconst (pc2 := 43) rfl rfl rfl ?_
  refine fs_iadd (pc2 := 44) rfl rfl rfl ?_
  refine fs_iload_n (pc2 := 45) rfl rfl rfl rfl ?_
  refine fs_sipush (pc2 := 48) rfl rfl rfl ?_
  refine fs_iand (pc2 := 49) rfl rfl rfl ?_
  try simp (disch := omega) only [nI_lit, pk_mul, nI_add, pk_sub, pk_rem4, nI_clamp, up2_o, up2_s, up2_i, cpV_o, cpV_i, w1, w2, w3, w4, w5, w6]
  refine fs_iast (pc2 := 50) rfl rfl rfl (by assumption) (vp_in_nI (by omega) (by decide)) ?_
  refine fs_aload_n (pc2 := 51) rfl rfl rfl rfl ?_
  refine fs_getr (pc2 := 54) rfl rfl rfl (by assumption) rfl ?_
  refine fs_iload (pc2 := 56) rfl rfl rfl rfl ?_
  refine fs_iconst (pc2 := 57) rfl rfl rfl ?_
  refine fs_iadd (pc2 := 58) rfl rfl rfl ?_
  refine fs_iload_n (pc2 := 59) rfl rfl rfl rfl ?_
  refine fs_bipush (pc2 := 61) rfl rfl rfl ?_
  refine fs_ishr (pc2 := 62) rfl rfl rfl ?_
  refine fs_sipush (pc2 := 65) rfl rfl rfl ?_
  refine fs_iand (pc2 := 66) rfl rfl rfl ?_
  try simp (disch := omega) only [nI_lit, pk_mul, nI_add, pk_sub, pk_rem4, nI_clamp, up2_o, up2_s, up2_i, cpV_o, cpV_i, w1, w2, w3, w4, w5, w6]
  refine fs_iast (pc2 := 67) rfl rfl rfl (by assumption) (vp_in_nI (by omega) (by decide)) ?_
  refine fs_aload_n (pc2 := 68) rfl rfl rfl rfl ?_
  refine fs_getr (pc2 := 71) rfl rfl rfl (by assumption) rfl ?_
  refine fs_iload_n (pc2 := 72) rfl rfl rfl rfl ?_
  refine fs_iconst (pc2 := 73) rfl rfl rfl ?_
  try simp (disch := omega) only [nI_lit, pk_mul, nI_add, pk_sub, pk_rem4, nI_clamp, up2_o, up2_s, up2_i, cpV_o, cpV_i, w1, w2, w3, w4, w5, w6]
  refine fs_iast (pc2 := 74) rfl rfl rfl (by assumption) (vp_in_nI (by omega) (by decide)) ?_
  refine fs_aload_n (pc2 := 75) rfl rfl rfl rfl ?_
  refine fs_getr (pc2 := 78) rfl rfl rfl (by assumption) rfl ?_
  refine fs_iload_n (pc2 := 79) rfl rfl rfl rfl ?_
  refine fs_iconst (pc2 := 80) rfl rfl rfl ?_
  try simp (disch := omega) only [nI_lit, pk_mul, nI_add, pk_sub, pk_rem4, nI_clamp, up2_o, up2_s, up2_i, cpV_o, cpV_i, w1, w2, w3, w4, w5, w6]
  refine fs_iast (pc2 := 81) rfl rfl rfl (by assumption) (vp_in_nI (by omega) (by decide)) ?_
  try simp (disch := omega) only [nI_lit, pk_mul, nI_add, pk_sub, pk_rem4, nI_clamp, up2_o, up2_s, up2_i, cpV_o, cpV_i, w1, w2, w3, w4, w5, w6]
  refine fs_ret rfl rfl ?_
  have hM2 := hM.pU (B := two l ++ two num) (a := 0) hh ((((((FM.refl.up (j := 33) (i := 160 * h) (v := nI (l % 256)) (by simp [own] <;> omega)).up (j := 33) (i := 160 * h + 1) (v := nI (l / 256)) (by simp [own] <;> omega)).up (j := 33) (i := 160 * h + 2) (v := nI (num % 256)) (by simp [own] <;> omega)).up (j := 33) (i := 160 * h + 3) (v := nI (num / 256)) (by simp [own] <;> omega)).up (j := 31) (i := h) (v := nI 4) (by simp [own])).up (j := 32) (i := h) (v := nI 0) (by simp [own])) ⟨?_, ?_, ?_, ?_, ?_⟩
  · exact hP _ _ _ _ ⟨rfl, rfl, rfl, hM2, (((((FM.refl.up (j := 33) (by simp [own] <;> omega)).up (j := 33) (by simp [own] <;> omega)).up (j := 33) (by simp [own] <;> omega)).up (j := 33) (by simp [own] <;> omega)).up (j := 31) (by simp [own])).up (j := 32) (by simp [own]), (((((KP.refl.up (by decide)).up (by decide)).up (by decide)).up (by decide)).up (by decide)).up (by decide)⟩
  · rw [up2_o (by omega), up2_s]; rfl
  · rw [up2_s]
  · simp [two]
  · simp
  · intro j b hj
    have lj := (List.getElem?_eq_some_iff.mp hj).1
    simp [two] at lj
    rw [up2_o (by omega), up2_o (by omega)]
    rcases (by omega : j = 0 ∨ j = 1 ∨ j = 2 ∨ j = 3) with rfl | rfl | rfl | rfl <;> (simp [two] at hj; subst hj; refine ⟨?_, by omega⟩; simp [up2])
set_option maxRecDepth 100000 in
set_option maxHeartbeats 4000000 in
theorem m_unitByte (hm : isMo sh mb) (hM : Mo V mb T S (va_up HH h H)) (hh : h < 2) {b : Nat} (hb : b < 256) (lB : H.2.2.2.2.2.1.length < 128) : fl_M cy z0 ext (d + 1) m_X7_unitByte [.ref (z0 + mb), .int (nI h), .int (nI b)] sh V n (fun v sh' V' n' => v = none ∧ sh' = sh ∧ n' = n ∧ Mo V' mb T S (va_up HH h (hoB H (H.2.2.2.2.2.1 ++ [b]))) ∧ FM mb (16 + h) V V' ∧ KP mb V V') := by
  have m0 := hm.1
  have a31 : sh (mb + 31) = some (.inl (1, 2, none)) := hm.2 30 (1, 2) rfl
  have a33 : sh (mb + 33) = some (.inl (1, 320, none)) := hm.2 32 (1, 320) rfl
  have hU := (hM.host hh).2.2.2.2.1
  obtain ⟨e31, g2, g3, g4, g5⟩ := id hU
  refine fs_body rfl rfl (fun Ret hP => ?_)
  refine fs_aload_n (pc2 := 1) rfl rfl rfl rfl ?_
  refine fs_getr (pc2 := 4) rfl rfl rfl (by assumption) rfl ?_
  refine fs_sipush (pc2 := 7) rfl rfl rfl ?_
  refine fs_iload_n (pc2 := 8) rfl rfl rfl rfl ?_
  refine fs_imul (pc2 := 9) rfl rfl rfl ?_
  refine fs_aload_n (pc2 := 10) rfl rfl rfl rfl ?_
  refine fs_getr (pc2 := 13) rfl rfl rfl (by assumption) rfl ?_
  refine fs_iload_n (pc2 := 14) rfl rfl rfl rfl ?_
  try simp (disch := omega) only [nI_lit, pk_mul, nI_add, pk_sub, pk_rem4, nI_clamp, up2_o, up2_s, up2_i, cpV_o, cpV_i, e31]
  refine fs_iald (pc2 := 15) rfl rfl rfl (by assumption) (vp_in_nI (by omega) (by decide)) ?_
  refine fs_iadd (pc2 := 16) rfl rfl rfl ?_
  refine fs_iload_n (pc2 := 17) rfl rfl rfl rfl ?_
  try simp (disch := omega) only [nI_lit, pk_mul, nI_add, pk_sub, pk_rem4, nI_clamp, up2_o, up2_s, up2_i, cpV_o, cpV_i, e31]
  refine fs_iast (pc2 := 18) rfl rfl rfl (by assumption) (vp_in_nI (by omega) (by decide)) ?_
  refine fs_aload_n (pc2 := 19) rfl rfl rfl rfl ?_
  refine fs_getr (pc2 := 22) rfl rfl rfl (by assumption) rfl ?_
  refine fs_iload_n (pc2 := 23) rfl rfl rfl rfl ?_
  refine fs_dup2 (pc2 := 24) rfl rfl rfl ?_
  try simp (disch := omega) only [nI_lit, pk_mul, nI_add, pk_sub, pk_rem4, nI_clamp, up2_o, up2_s, up2_i, cpV_o, cpV_i, e31]
  refine fs_iald (pc2 := 25) rfl rfl rfl (by assumption) (vp_in_nI (by omega) (by decide)) ?_
  refine fs_iconst (pc2 := 26) rfl rfl rfl ?_
  refine fs_iadd (pc2 := 27) rfl rfl rfl ?_
  try simp (disch := omega) only [nI_lit, pk_mul, nI_add, pk_sub, pk_rem4, nI_clamp, up2_o, up2_s, up2_i, cpV_o, cpV_i, e31]
  refine fs_iast (pc2 := 28) rfl rfl rfl (by assumption) (vp_in_nI (by omega) (by decide)) ?_
  try simp (disch := omega) only [nI_lit, pk_mul, nI_add, pk_sub, pk_rem4, nI_clamp, up2_o, up2_s, up2_i, cpV_o, cpV_i, e31]
  refine fs_ret rfl rfl ?_
  have hM2 := hM.pU hh ((FM.refl.up (j := 33) (by simp [own] <;> omega)).up (j := 31) (by simp [own])) (hU.add hb lB)
  rw [hoB_7] at hM2
  exact hP _ _ _ _ ⟨rfl, rfl, rfl, hM2, (FM.refl.up (j := 33) (by simp [own] <;> omega)).up (j := 31) (by simp [own]), (KP.refl.up (by decide)).up (by decide)⟩
set_option maxRecDepth 100000 in
set_option maxHeartbeats 4000000 in
theorem m_beginSignal (hm : isMo sh mb) (hM : Mo V mb T S (va_up HH h H)) (hh : h < 2) {x : List Nat} {qs : List (List Nat)} (hQ : H.2.2.2.2.1 = x :: qs) : fl_M cy z0 ext (d + 2) m_X7_beginSignal [.ref (z0 + mb), .int (nI h)] sh V n (fun v sh' V' n' => v = none ∧ sh' = sh ∧ n' = n ∧ Mo V' mb T S (va_up HH h (ho_bsig H x qs)) ∧ KP mb V V') := by
  have m0 := hm.1
  have a25 : sh (mb + 25) = some (.inl (1, 2, none)) := hm.2 24 (1, 2) rfl
  have a26 : sh (mb + 26) = some (.inl (1, 2, none)) := hm.2 25 (1, 2) rfl
  have a27 : sh (mb + 27) = some (.inl (1, 4096, none)) := hm.2 26 (1, 4096) rfl
  have a28 : sh (mb + 28) = some (.inl (1, 57344, none)) := hm.2 27 (1, 57344) rfl
  obtain ⟨fs, e25, e26, l1, l2, q5⟩ := id (hM.host hh).2.2.2.1
  rw [hQ] at e26 l1 q5
  simp only [List.length_cons] at e26 l1
  obtain ⟨e27, lx, hx⟩ := q5 0 x rfl
  simp only [Nat.add_zero] at e27 hx
  refine fs_body rfl rfl (fun Ret hP => ?_)
  have loop : ∀ j i (V1 : fl_V), i + j = x.length → Mo V1 mb T S (va_up HH h (hoB (hoN H 7 0) (two x.length ++ two 5 ++ x.take i))) → KP mb V V1 → FM mb (16 + h) V V1 → fl_R cy z0 (ev_M cy ext (d + 1)) 7 0 0 4 none kc_X7_beginSignal Ret 27 [(0, .ref (z0 + mb)), (1, .int (nI h)), (2, .int (nI (2048 * h + fs))), (3, .int (nI i))] [] sh V1 n 0 0 := by
    intro j
    induction j with
    | zero =>
      intro i V1 hi hM1 kp1 hF1
      have hi2 : i = x.length := by omega
      subst hi2
      have f25 : V1 (mb + 25) h = nI fs := by rw [hF1 25 h (by simp [own] <;> omega)]; exact e25
      have f26 : V1 (mb + 26) h = nI (qs.length + 1) := by rw [hF1 26 h (by simp [own] <;> omega)]; exact e26
      have f27 : V1 (mb + 27) (2048 * h + fs) = nI x.length := by rw [hF1 27 _ (by simp [own] <;> omega)]; exact e27
      refine fs_iload_n (pc2 := 28) rfl rfl rfl rfl ?_
      refine fs_aload_n (pc2 := 29) rfl rfl rfl rfl ?_
      refine fs_getr (pc2 := 32) rfl rfl rfl (by assumption) rfl ?_
      refine fs_iload_n (pc2 := 33) rfl rfl rfl rfl ?_
      try simp (disch := omega) only [nI_lit, pk_mul, nI_add, pk_sub, pk_rem4, nI_clamp, up2_o, up2_s, up2_i, cpV_o, cpV_i, f25, f26, f27]
      refine fs_iald (pc2 := 34) rfl rfl rfl (by assumption) (vp_in_nI (by omega) (by decide)) ?_
      try simp (disch := omega) only [nI_lit, pk_mul, nI_add, pk_sub, pk_rem4, nI_clamp, up2_o, up2_s, up2_i, cpV_o, cpV_i, f25, f26, f27]
      refine fs_icmp_ge (pc2 := 37) rfl rfl rfl (fun h34 => ?_) (fun h34 => ?_)
      · refine fs_aload_n (pc2 := 60) rfl rfl rfl rfl ?_
        refine fs_getr (pc2 := 63) rfl rfl rfl (by assumption) rfl ?_
        refine fs_iload_n (pc2 := 64) rfl rfl rfl rfl ?_
        refine fs_dup2 (pc2 := 65) rfl rfl rfl ?_
        try simp (disch := omega) only [nI_lit, pk_mul, nI_add, pk_sub, pk_rem4, nI_clamp, up2_o, up2_s, up2_i, cpV_o, cpV_i, f25, f26, f27]
        refine fs_iald (pc2 := 66) rfl rfl rfl (by assumption) (vp_in_nI (by omega) (by decide)) ?_
        refine fs_iconst (pc2 := 67) rfl rfl rfl ?_
        refine fs_iadd (pc2 := 68) rfl rfl rfl ?_
        try simp (disch := omega) only [nI_lit, pk_mul, nI_add, pk_sub, pk_rem4, nI_clamp, up2_o, up2_s, up2_i, cpV_o, cpV_i, f25, f26, f27]
        refine fs_iast (pc2 := 69) rfl rfl rfl (by assumption) (vp_in_nI (by omega) (by decide)) ?_
        refine fs_aload_n (pc2 := 70) rfl rfl rfl rfl ?_
        refine fs_getr (pc2 := 73) rfl rfl rfl (by assumption) rfl ?_
        refine fs_iload_n (pc2 := 74) rfl rfl rfl rfl ?_
        refine fs_dup2 (pc2 := 75) rfl rfl rfl ?_
        try simp (disch := omega) only [nI_lit, pk_mul, nI_add, pk_sub, pk_rem4, nI_clamp, up2_o, up2_s, up2_i, cpV_o, cpV_i, f25, f26, f27]
        refine fs_iald (pc2 := 76) rfl rfl rfl (by assumption) (vp_in_nI (by omega) (by decide)) ?_
        refine fs_iconst (pc2 := 77) rfl rfl rfl ?_
        refine fs_isub (pc2 := 78) rfl rfl rfl ?_
        try simp (disch := omega) only [nI_lit, pk_mul, nI_add, pk_sub, pk_rem4, nI_clamp, up2_o, up2_s, up2_i, cpV_o, cpV_i, f25, f26, f27]
        refine fs_iast (pc2 := 79) rfl rfl rfl (by assumption) (vp_in_nI (by omega) (by decide)) ?_
        try simp (disch := omega) only [nI_lit, pk_mul, nI_add, pk_sub, pk_rem4, nI_clamp, up2_o, up2_s, up2_i, cpV_o, cpV_i, f25, f26, f27]
        refine fs_ret rfl rfl ?_
        have hM2 := hM1.pQ (Q := qs) hh ((FM.refl.up (j := 25) (i := h) (v := nI (fs + 1)) (by simp [own])).up (j := 26) (i := h) (v := nI qs.length) (by simp [own])) ⟨fs + 1, ?_, ?_, by omega, l2, fun q y hq => ?_⟩
        · refine hP _ _ _ _ ⟨rfl, rfl, rfl, ?_, kp1.trans ((KP.refl.up (by decide)).up (by decide))⟩
          rw [List.take_of_length_le (Nat.le_refl _)] at hM2
          exact hM2
        · rw [up2_o (by omega), up2_s]
        · rw [up2_s]
        · obtain ⟨a1, a2, a3⟩ := q5 (q + 1) y (by simpa using hq)
          have lq := (List.getElem?_eq_some_iff.mp hq).1
          rw [up2_o (by omega), up2_o (by omega), up2_o (by omega), up2_o (by omega), show 2048 * h + (fs + 1) + q = 2048 * h + fs + (q + 1) by omega, hF1 27 _ (by simp [own] <;> omega)]
          exact ⟨a1, a2, a3.kept (fun j hj => hF1 28 _ (by simp [own] <;> omega))⟩
      · have := c_lt (a := x.length) (b := x.length) h34 rfl rfl
        omega
    | succ j ih =>
      intro i V1 hi hM1 kp1 hF1
      have f27 : V1 (mb + 27) (2048 * h + fs) = nI x.length := by rw [hF1 27 _ (by simp [own] <;> omega)]; exact e27
      obtain ⟨f28a, f28b⟩ := hx.at (j := i) (by omega)
      have f28 : V1 (mb + 28) (14 * (2048 * h + fs) + i) = nI (x.getD i 0) := by rw [hF1 28 _ (by simp [own] <;> omega)]; exact f28a
      have et : x.take i ++ [x.getD i 0] = x.take (i + 1) := by
        rw [List.take_add_one, List.getD_eq_getElem?_getD, List.getElem?_eq_getElem (by omega)]; rfl
      refine fs_iload_n (pc2 := 28) rfl rfl rfl rfl ?_
      refine fs_aload_n (pc2 := 29) rfl rfl rfl rfl ?_
      refine fs_getr (pc2 := 32) rfl rfl rfl (by assumption) rfl ?_
      refine fs_iload_n (pc2 := 33) rfl rfl rfl rfl ?_
      try simp (disch := omega) only [nI_lit, pk_mul, nI_add, pk_sub, pk_rem4, nI_clamp, up2_o, up2_s, up2_i, cpV_o, cpV_i, f27, f28]
      refine fs_iald (pc2 := 34) rfl rfl rfl (by assumption) (vp_in_nI (by omega) (by decide)) ?_
      try simp (disch := omega) only [nI_lit, pk_mul, nI_add, pk_sub, pk_rem4, nI_clamp, up2_o, up2_s, up2_i, cpV_o, cpV_i, f27, f28]
      refine fs_icmp_ge (pc2 := 37) rfl rfl rfl (fun h34 => ?_) (fun h34 => ?_)
      · have := c_nlt (a := i) (b := x.length) h34 rfl rfl
        omega
      · refine fs_aload_n (pc2 := 38) rfl rfl rfl rfl ?_
        refine fs_iload_n (pc2 := 39) rfl rfl rfl rfl ?_
        refine fs_aload_n (pc2 := 40) rfl rfl rfl rfl ?_
        refine fs_getr (pc2 := 43) rfl rfl rfl (by assumption) rfl ?_
        refine fs_bipush (pc2 := 45) rfl rfl rfl ?_
        refine fs_iload_n (pc2 := 46) rfl rfl rfl rfl ?_
        refine fs_imul (pc2 := 47) rfl rfl rfl ?_
        refine fs_iload_n (pc2 := 48) rfl rfl rfl rfl ?_
        refine fs_iadd (pc2 := 49) rfl rfl rfl ?_
        try simp (disch := omega) only [nI_lit, pk_mul, nI_add, pk_sub, pk_rem4, nI_clamp, up2_o, up2_s, up2_i, cpV_o, cpV_i, f27, f28]
        refine fs_iald (pc2 := 50) rfl rfl rfl (by assumption) (vp_in_nI (by omega) (by decide)) ?_
        try simp (disch := omega) only [nI_lit, pk_mul, nI_add, pk_sub, pk_rem4, nI_clamp, up2_o, up2_s, up2_i, cpV_o, cpV_i, f27, f28]
        refine fs_callv (pc2 := 53) rfl rfl rfl rfl ⟨rfl, rfl⟩ (Nat.le_of_ble_eq_true rfl) (Nat.le_of_ble_eq_true rfl) (Nat.le_of_ble_eq_true rfl) (fs_rcv rfl (by assumption)) (m_unitByte hm hM1 hh f28b (by simp [two]; omega)) (fun v9 sh9 V9 n9 hp9 => ?_)
        obtain ⟨ea9, eb9, ec9, hM2, hF2, kp2⟩ := hp9
        cases ea9
        obtain rfl := eb9.symm
        obtain rfl := ec9.symm
        refine fs_iinc (pc2 := 56) rfl rfl rfl (Nat.le_of_ble_eq_true rfl) rfl ?_
        refine fs_goto rfl rfl ?_
        try simp (disch := omega) only [nI_lit, pk_mul, nI_add, pk_sub, pk_rem4, nI_clamp, up2_o, up2_s, up2_i, cpV_o, cpV_i]
        refine ih (i + 1) _ (by omega) (by rw [← et]; simpa [List.append_assoc] using hM2) (kp1.trans kp2) (hF1.trans hF2)
  refine fs_sipush (pc2 := 3) rfl rfl rfl ?_
  refine fs_iload_n (pc2 := 4) rfl rfl rfl rfl ?_
  refine fs_imul (pc2 := 5) rfl rfl rfl ?_
  refine fs_aload_n (pc2 := 6) rfl rfl rfl rfl ?_
  refine fs_getr (pc2 := 9) rfl rfl rfl (by assumption) rfl ?_
  refine fs_iload_n (pc2 := 10) rfl rfl rfl rfl ?_
  try simp (disch := omega) only [nI_lit, pk_mul, nI_add, pk_sub, pk_rem4, nI_clamp, up2_o, up2_s, up2_i, cpV_o, cpV_i, e25, e27]
  refine fs_iald (pc2 := 11) rfl rfl rfl (by assumption) (vp_in_nI (by omega) (by decide)) ?_
  refine fs_iadd (pc2 := 12) rfl rfl rfl ?_
  refine fs_istore_n (pc2 := 13) rfl rfl rfl (Nat.le_of_ble_eq_true rfl) ?_
  refine fs_aload_n (pc2 := 14) rfl rfl rfl rfl ?_
  refine fs_iload_n (pc2 := 15) rfl rfl rfl rfl ?_
  refine fs_aload_n (pc2 := 16) rfl rfl rfl rfl ?_
  refine fs_getr (pc2 := 19) rfl rfl rfl (by assumption) rfl ?_
  refine fs_iload_n (pc2 := 20) rfl rfl rfl rfl ?_
  try simp (disch := omega) only [nI_lit, pk_mul, nI_add, pk_sub, pk_rem4, nI_clamp, up2_o, up2_s, up2_i, cpV_o, cpV_i, e25, e27]
  refine fs_iald (pc2 := 21) rfl rfl rfl (by assumption) (vp_in_nI (by omega) (by decide)) ?_
  refine fs_iconst (pc2 := 22) rfl rfl rfl ?_
  try simp (disch := omega) only [nI_lit, pk_mul, nI_add, pk_sub, pk_rem4, nI_clamp, up2_o, up2_s, up2_i, cpV_o, cpV_i, e25, e27]
  refine fs_callv (pc2 := 25) rfl rfl rfl rfl ⟨rfl, rfl⟩ (Nat.le_of_ble_eq_true rfl) (Nat.le_of_ble_eq_true rfl) (Nat.le_of_ble_eq_true rfl) (fs_rcv rfl (by assumption)) (m_unitHead hm hM hh (l := x.length) (num := 5) (by omega) (by decide)) (fun v9 sh9 V9 n9 hp9 => ?_)
  obtain ⟨ea9, eb9, ec9, hM2, hF2, kp2⟩ := hp9
  cases ea9
  obtain rfl := eb9.symm
  obtain rfl := ec9.symm
  refine fs_iconst (pc2 := 26) rfl rfl rfl ?_
  refine fs_istore_n (pc2 := 27) rfl rfl rfl (Nat.le_of_ble_eq_true rfl) ?_
  try simp (disch := omega) only [nI_lit, pk_mul, nI_add, pk_sub, pk_rem4, nI_clamp, up2_o, up2_s, up2_i, cpV_o, cpV_i]
  exact loop x.length 0 _ (by omega) (by simpa using hM2) kp2 hF2
end MLOW
