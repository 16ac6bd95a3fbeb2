theorem MW.add {V : fl_V} {mb h : Nat} {W : List Pkt} {mk ow : Bool} {xs : List Nat} {f : Nat → Int32} (hW : MW V mb h W) (hh : h < 2) (hl : W.length < 32) (hx : xs.length ≤ 27) (hf : ∀ j, j < xs.length → f j = nI (xs.getD j 0) ∧ xs.getD j 0 < 256) : MW (up2 (cpV (up2 (up2 (up2 V (mb + 35) (32 * h + W.length) (nI xs.length)) (mb + 36) (32 * h + W.length) (bI mk)) (mb + 37) (32 * h + W.length) (bI ow)) (mb + 38) (27 * (32 * h + W.length)) xs.length f) (mb + 34) h (nI (W.length + 1))) mb h (W ++ [(mk, ow, xs)]) := by
  obtain ⟨e34, lW2, pW⟩ := hW
  refine ⟨by rw [up2_s]; simp, by simp; omega, fun q y hq => ?_⟩
  have lq := (List.getElem?_eq_some_iff.mp hq).1
  simp at lq
  simp (disch := omega) only [up2_o, cpV_o]
  by_cases z : q < W.length
  · rw [List.getElem?_append_left z] at hq
    obtain ⟨a1, a2, a3, a4, a5⟩ := pW q y hq
    simp (disch := omega) only [up2_o, up2_i]
    exact ⟨a1, a2, a3, a4, a5.kept (fun j hj => by rw [cpV_i (by omega)]; simp (disch := omega) only [up2_o])⟩
  · have e : q = W.length := by omega
    subst e
    simp at hq
    subst hq
    dsimp only
    simp (disch := omega) only [up2_o, up2_s]
    refine ⟨trivial, trivial, trivial, hx, fun j b hj => ?_⟩
    have lj := (List.getElem?_eq_some_iff.mp hj).1
    obtain ⟨a1, a2⟩ := hf j lj
    rw [List.getD_eq_getElem?_getD, hj] at a1 a2
    rw [cpV_s (by omega), Nat.add_sub_cancel_left]
    exact ⟨a1, a2⟩
theorem injU_0 {S : List Nat} {num more : Nat} : (injUnit S num more).getD 0 0 = (S.length + more) % 256 := rfl
theorem injU_1 {S : List Nat} {num more : Nat} : (injUnit S num more).getD 1 0 = (S.length + more) / 256 := rfl
theorem injU_2 {S : List Nat} {num more : Nat} : (injUnit S num more).getD 2 0 = num % 256 := rfl
theorem injU_3 {S : List Nat} {num more : Nat} : (injUnit S num more).getD 3 0 = num / 256 := rfl
theorem injU_4 {S : List Nat} {num more x : Nat} (h : 4 ≤ x) : (injUnit S num more).getD x 0 = S.getD (x - 4) 0 := by
  unfold injUnit
  rw [getD_ar (by simp [two]; omega)]
  rfl
section MINJ
variable {cy : Nat → ClassId} {z0 : Nat} {ext : Nat → Nat → List Value → ev_H → Nat → ev_P → Prop} {d : Nat} {sh : fl_S} {V : fl_V} {n mb : Nat} {T : Nat → Nat} {S : List Nat} {HH : Nat → Ho} {H : Ho} {h k : Nat}
set_option maxRecDepth 100000 in
set_option maxHeartbeats 4000000 in
theorem m_inject_full (hm : isMo sh mb) (hM : Mo V mb T S HH) (hh : h < 2) {num more : Nat} (hnum : num ≤ 65535) (hmore : more ≤ 100) (hfull : 32 < (HH h).2.2.2.1.length + ((S.length + 30) / 27)) : fl_M cy z0 ext (d + 7) m_X7_inject [.ref (z0 + mb), .int (nI h), .int (nI num), .int (nI more)] sh V n (fun v sh' V' n' => v = some (.int (-2)) ∧ sh' = sh ∧ n' = n ∧ Mo V' mb T S HH ∧ V' mb 0 = nI 0 ∧ OU mb V V') := by
  have m0 := hm.1
  have a1 : sh (mb + 1) = some (.inl (1, 120, none)) := hm.2 0 (1, 120) rfl
  have a34 : sh (mb + 34) = some (.inl (1, 2, none)) := hm.2 33 (1, 2) rfl
  have a35 : sh (mb + 35) = some (.inl (1, 64, none)) := hm.2 34 (1, 64) rfl
  have a36 : sh (mb + 36) = some (.inl (2, 64, none)) := hm.2 35 (2, 64) rfl
  have a37 : sh (mb + 37) = some (.inl (2, 64, none)) := hm.2 36 (2, 64) rfl
  have a38 : sh (mb + 38) = some (.inl (1, 1728, none)) := hm.2 37 (1, 1728) rfl
  have hHo := isHostM_nI hh
  have hM1 : Mo (up2 V mb 0 (nI 0)) mb T S (va_up HH h (HH h)) := (hM.at (h := h)).tmp FM.zero
  have e34 := (hM.2 h hh).2.2.1.1
  have lW0 := (hM.2 h hh).2.2.1.2.1
  obtain ⟨e2, l2, e1⟩ := id hM.1
  have hI1 : isInB (nI num) (nI 0) (nI 65535) = true := by rw [isInB_nI (by omega) (by decide) (by decide)]; exact decide_eq_true (by omega)
  have hI2 : isInB (nI more) (nI 0) (nI 100) = true := by rw [isInB_nI (by omega) (by decide) (by decide)]; exact decide_eq_true (by omega)
  obtain ⟨p, hp⟩ : ∃ p, p = (S.length + 30) / 27 := ⟨_, rfl⟩
  have ep1 : (S.length + 4 + 27 - 1) / 27 = p := by rw [hp]; rfl
  have ep2 : (S.length + 31 - 1) / 27 = p := by rw [hp]; rfl
  have ep3 : (S.length + 30) / 27 = p := hp.symm
  refine fs_body rfl rfl (fun Ret hP => ?_)
  refine fs_aload_n (pc2 := 1) rfl rfl rfl rfl ?_
  refine fs_iload_n (pc2 := 2) rfl rfl rfl rfl ?_
  try simp (disch := omega) only [nI_lit, pk_mul, nI_add, pk_sub, pk_rem4, nI_clamp, up2_o, up2_s, up2_i, cpV_o, cpV_i, e2, e34, pk_div, ep1, ep2, ep3]
  refine fs_calls (pc2 := 5) rfl rfl rfl rfl rfl rfl ⟨rfl, rfl⟩ (Nat.le_of_ble_eq_true rfl) (Nat.le_of_ble_eq_true rfl) (Nat.le_of_ble_eq_true rfl) (m_isHost (u := nI h)) (fun v9 sh9 V9 n9 hp9 => ?_)
  obtain ⟨ea9, eb9, ec9, hv9⟩ := hp9
  cases ea9
  obtain rfl := eb9.symm
  obtain rfl := ec9.symm
  cases hv9
  rw [hHo]
  try simp (disch := omega) only [nI_lit, pk_mul, nI_add, pk_sub, pk_rem4, nI_clamp, up2_o, up2_s, up2_i, cpV_o, cpV_i, e2, e34, pk_div, ep1, ep2, ep3]
  refine fs_if_eq (pc2 := 8) rfl rfl rfl (fun h5 => ?_) (fun h5 => ?_)
  · first | exact absurd h5 (by decide) | exact absurd (by decide) h5
  · refine fs_iload_n (pc2 := 9) rfl rfl rfl rfl ?_
    refine fs_iconst (pc2 := 10) rfl rfl rfl ?_
    refine fs_ldc (pc2 := 12) rfl rfl rfl ?_
    try simp (disch := omega) only [nI_lit, pk_mul, nI_add, pk_sub, pk_rem4, nI_clamp, up2_o, up2_s, up2_i, cpV_o, cpV_i, e2, e34, pk_div, ep1, ep2, ep3]
    refine fs_calls (pc2 := 15) rfl rfl rfl rfl rfl rfl ⟨rfl, rfl⟩ (Nat.le_of_ble_eq_true rfl) (Nat.le_of_ble_eq_true rfl) (Nat.le_of_ble_eq_true rfl) (m_isIn (u := nI num) (a := nI 0) (b := nI 65535)) (fun v9 sh9 V9 n9 hp9 => ?_)
    obtain ⟨ea9, eb9, ec9, hv9⟩ := hp9
    cases ea9
    obtain rfl := eb9.symm
    obtain rfl := ec9.symm
    cases hv9
    rw [hI1]
    try simp (disch := omega) only [nI_lit, pk_mul, nI_add, pk_sub, pk_rem4, nI_clamp, up2_o, up2_s, up2_i, cpV_o, cpV_i, e2, e34, pk_div, ep1, ep2, ep3]
    refine fs_if_eq (pc2 := 18) rfl rfl rfl (fun h15 => ?_) (fun h15 => ?_)
    · first | exact absurd h15 (by decide) | exact absurd (by decide) h15
    · refine fs_iload_n (pc2 := 19) rfl rfl rfl rfl ?_
      refine fs_iconst (pc2 := 20) rfl rfl rfl ?_
      refine fs_bipush (pc2 := 22) rfl rfl rfl ?_
      try simp (disch := omega) only [nI_lit, pk_mul, nI_add, pk_sub, pk_rem4, nI_clamp, up2_o, up2_s, up2_i, cpV_o, cpV_i, e2, e34, pk_div, ep1, ep2, ep3]
      refine fs_calls (pc2 := 25) rfl rfl rfl rfl rfl rfl ⟨rfl, rfl⟩ (Nat.le_of_ble_eq_true rfl) (Nat.le_of_ble_eq_true rfl) (Nat.le_of_ble_eq_true rfl) (m_isIn (u := nI more) (a := nI 0) (b := nI 100)) (fun v9 sh9 V9 n9 hp9 => ?_)
      obtain ⟨ea9, eb9, ec9, hv9⟩ := hp9
      cases ea9
      obtain rfl := eb9.symm
      obtain rfl := ec9.symm
      cases hv9
      rw [hI2]
      try simp (disch := omega) only [nI_lit, pk_mul, nI_add, pk_sub, pk_rem4, nI_clamp, up2_o, up2_s, up2_i, cpV_o, cpV_i, e2, e34, pk_div, ep1, ep2, ep3]
      refine fs_if_eq (pc2 := 28) rfl rfl rfl (fun h25 => ?_) (fun h25 => ?_)
      · first | exact absurd h25 (by decide) | exact absurd (by decide) h25
      · refine fs_iconst (pc2 := 29) rfl rfl rfl ?_
        refine fs_goto rfl rfl ?_
        try simp (disch := omega) only [nI_lit, pk_mul, nI_add, pk_sub, pk_rem4, nI_clamp, up2_o, up2_s, up2_i, cpV_o, cpV_i, e2, e34, pk_div, ep1, ep2, ep3]
        refine fs_callv (pc2 := 36) rfl rfl rfl rfl ⟨rfl, rfl⟩ (Nat.le_of_ble_eq_true rfl) (Nat.le_of_ble_eq_true rfl) (Nat.le_of_ble_eq_true rfl) (fs_rcv rfl (by assumption)) (m_refusedE hm (w := nI 0)) (fun v9 sh9 V9 n9 hp9 => ?_)
        obtain ⟨ea9, eb9, ec9, hv9⟩ := hp9
        cases ea9
        obtain rfl := eb9.symm
        obtain rfl := ec9.symm
        cases hv9
        rw [rf0]
        try simp (disch := omega) only [nI_lit, pk_mul, nI_add, pk_sub, pk_rem4, nI_clamp, up2_o, up2_s, up2_i, cpV_o, cpV_i, e2, e34, pk_div, ep1, ep2, ep3]
        refine fs_if_eq (pc2 := 39) rfl rfl rfl (fun h36 => ?_) (fun h36 => ?_)
        · refine fs_aload_n (pc2 := 42) rfl rfl rfl rfl ?_
          refine fs_geti (pc2 := 45) rfl rfl rfl (by assumption) rfl ?_
          refine fs_iconst (pc2 := 46) rfl rfl rfl ?_
          refine fs_iadd (pc2 := 47) rfl rfl rfl ?_
          refine fs_istore (pc2 := 49) rfl rfl rfl (Nat.le_of_ble_eq_true rfl) ?_
          refine fs_iload (pc2 := 51) rfl rfl rfl rfl ?_
          refine fs_bipush (pc2 := 53) rfl rfl rfl ?_
          refine fs_iadd (pc2 := 54) rfl rfl rfl ?_
          refine fs_iconst (pc2 := 55) rfl rfl rfl ?_
          refine fs_isub (pc2 := 56) rfl rfl rfl ?_
          refine fs_bipush (pc2 := 58) rfl rfl rfl ?_
          refine fs_idiv (pc2 := 59) rfl rfl rfl (by decide) ?_
          refine fs_istore (pc2 := 61) rfl rfl rfl (Nat.le_of_ble_eq_true rfl) ?_
          refine fs_aload_n (pc2 := 62) rfl rfl rfl rfl ?_
          refine fs_getr (pc2 := 65) rfl rfl rfl (by assumption) rfl ?_
          refine fs_iload_n (pc2 := 66) rfl rfl rfl rfl ?_
          try simp (disch := omega) only [nI_lit, pk_mul, nI_add, pk_sub, pk_rem4, nI_clamp, up2_o, up2_s, up2_i, cpV_o, cpV_i, e2, e34, pk_div, ep1, ep2, ep3]
          refine fs_iald (pc2 := 67) rfl rfl rfl (by assumption) (vp_in_nI (by omega) (by decide)) ?_
          refine fs_iload (pc2 := 69) rfl rfl rfl rfl ?_
          refine fs_iadd (pc2 := 70) rfl rfl rfl ?_
          refine fs_bipush (pc2 := 72) rfl rfl rfl ?_
          try simp (disch := omega) only [nI_lit, pk_mul, nI_add, pk_sub, pk_rem4, nI_clamp, up2_o, up2_s, up2_i, cpV_o, cpV_i, e2, e34, pk_div, ep1, ep2, ep3]
          refine fs_icmp_le (pc2 := 75) rfl rfl rfl (fun h72 => ?_) (fun h72 => ?_)
          · have := c_le (b := 32) h72 rfl rfl
            omega
          · refine fs_bipush (pc2 := 77) rfl rfl rfl ?_
            try simp (disch := omega) only [nI_lit, pk_mul, nI_add, pk_sub, pk_rem4, nI_clamp, up2_o, up2_s, up2_i, cpV_o, cpV_i, e2, e34, pk_div, ep1, ep2, ep3]
            refine fs_iret rfl rfl True.intro ?_
            rw [va_up_id] at hM1
            exact hP _ _ _ _ ⟨rfl, rfl, rfl, hM1, up2_s, OU.zero⟩
        · first | exact absurd h36 (by decide) | exact absurd (by decide) h36
set_option maxRecDepth 100000 in
set_option maxHeartbeats 4000000 in
theorem m_inject (hm : isMo sh mb) (hM : Mo V mb T S HH) (hh : h < 2) {num more : Nat} (hnum : num ≤ 65535) (hmore : more ≤ 100) (hfit : (HH h).2.2.2.1.length + ((S.length + 30) / 27) ≤ 32) (hS : SI2 (va_up HH h (hoW (HH h) ((HH h).2.2.2.1 ++ (List.range ((S.length + 30) / 27)).map (injPk (injUnit S num more)))))) : fl_M cy z0 ext (d + 7) m_X7_inject [.ref (z0 + mb), .int (nI h), .int (nI num), .int (nI more)] sh V n (fun v sh' V' n' => v = some (.int (nI ((S.length + 30) / 27))) ∧ sh' = sh ∧ n' = n ∧ Mo V' mb T S (st_send (va_up HH h (hoW (HH h) ((HH h).2.2.2.1 ++ (List.range ((S.length + 30) / 27)).map (injPk (injUnit S num more)))))) ∧ V' mb 0 = nI 0 ∧ OU mb V V') := by
  have m0 := hm.1
  have a1 : sh (mb + 1) = some (.inl (1, 120, none)) := hm.2 0 (1, 120) rfl
  have a34 : sh (mb + 34) = some (.inl (1, 2, none)) := hm.2 33 (1, 2) rfl
  have a35 : sh (mb + 35) = some (.inl (1, 64, none)) := hm.2 34 (1, 64) rfl
  have a36 : sh (mb + 36) = some (.inl (2, 64, none)) := hm.2 35 (2, 64) rfl
  have a37 : sh (mb + 37) = some (.inl (2, 64, none)) := hm.2 36 (2, 64) rfl
  have a38 : sh (mb + 38) = some (.inl (1, 1728, none)) := hm.2 37 (1, 1728) rfl
  have hHo := isHostM_nI hh
  have hM1 : Mo (up2 V mb 0 (nI 0)) mb T S (va_up HH h (HH h)) := (hM.at (h := h)).tmp FM.zero
  have e34 := (hM.2 h hh).2.2.1.1
  have lW0 := (hM.2 h hh).2.2.1.2.1
  obtain ⟨e2, l2, e1⟩ := id hM.1
  have hI1 : isInB (nI num) (nI 0) (nI 65535) = true := by rw [isInB_nI (by omega) (by decide) (by decide)]; exact decide_eq_true (by omega)
  have hI2 : isInB (nI more) (nI 0) (nI 100) = true := by rw [isInB_nI (by omega) (by decide) (by decide)]; exact decide_eq_true (by omega)
  obtain ⟨p, hp⟩ : ∃ p, p = (S.length + 30) / 27 := ⟨_, rfl⟩
  have ep1 : (S.length + 4 + 27 - 1) / 27 = p := by rw [hp]; rfl
  have ep2 : (S.length + 31 - 1) / 27 = p := by rw [hp]; rfl
  have ep3 : (S.length + 30) / 27 = p := hp.symm
  rw [ep3] at hfit hS
  obtain ⟨wl, hwl⟩ : ∃ x, x = (HH h).2.2.2.1.length := ⟨_, rfl⟩
  rw [← hwl] at e34 lW0 hfit
  have b1 : ev_bn 7 (nI 1) = nI 1 := by decide
  have b0 : ev_bn 7 (nI 0) = nI 0 := by decide
  have w1 : nI (S.length + more) &&& nI 255 = nI ((S.length + more) % 256) := nI_255 (by omega)
  have w2 : (nI (S.length + more) >>> (nI 8 &&& nI 31)) = nI ((S.length + more) / 256) := nI_shr8 (by omega)
  have w3 : nI num &&& nI 255 = nI (num % 256) := nI_255 (by omega)
  have w4 : (nI num >>> (nI 8 &&& nI 31)) = nI (num / 256) := nI_shr8 (by omega)
  have lU : (injUnit S num more).length = S.length + 4 := by unfold injUnit; simp [two]
  refine fs_body rfl rfl (fun Ret hP => ?_)
  rw [ep3] at hP
  have inner : ∀ j mny bm (V1 : fl_V), 27 * j + mny ≤ S.length + 4 → mny ≤ 27 → wl + j < 32 → (∀ i, i < S.length → V1 (mb + 1) i = nI (S.getD i 0)) → (∀ (q r : Int32), fl_R cy z0 (ev_M cy ext (d + 6)) 7 0 0 12 (some .int) kc_X7_inject Ret 274 ([(0, .ref (z0 + mb)), (1, .int (nI h)), (2, .int (nI num)), (3, .int (nI more)), (4, .int (nI (S.length + 4))), (5, .int (nI p)), (6, .int (nI (S.length + more))), (7, .int (nI j)), (8, .int (nI (32 * h + (wl + j)))), (9, .int (nI mny)), (10, .int q)] ++ [(11, .int r)]) [] sh (cpV (up2 (up2 (up2 V1 (mb + 35) (32 * h + (wl + j)) (nI mny)) (mb + 36) (32 * h + (wl + j)) (nI bm)) (mb + 37) (32 * h + (wl + j)) (nI 0)) (mb + 38) (27 * (32 * h + (wl + j))) mny (fun b => nI ((injUnit S num more).getD (27 * j + b) 0))) n 0 0) → 0 < mny → ∀ k2 i2 (T11 : List (Nat × Value)), i2 + k2 = mny → (i2 = mny → T11 ≠ []) → (T11 = [] ∨ ∃ q, T11 = [(11, .int q)]) → fl_R cy z0 (ev_M cy ext (d + 6)) 7 0 0 12 (some .int) kc_X7_inject Ret 174 ([(0, .ref (z0 + mb)), (1, .int (nI h)), (2, .int (nI num)), (3, .int (nI more)), (4, .int (nI (S.length + 4))), (5, .int (nI p)), (6, .int (nI (S.length + more))), (7, .int (nI j)), (8, .int (nI (32 * h + (wl + j)))), (9, .int (nI mny)), (10, .int (nI i2))] ++ T11) [] sh (cpV (up2 (up2 (up2 V1 (mb + 35) (32 * h + (wl + j)) (nI mny)) (mb + 36) (32 * h + (wl + j)) (nI bm)) (mb + 37) (32 * h + (wl + j)) (nI 0)) (mb + 38) (27 * (32 * h + (wl + j))) i2 (fun b => nI ((injUnit S num more).getD (27 * j + b) 0))) n 0 0 := by
    intro j mny bm V1 hle h27 hwj hst hnext h0 k2
    induction k2 with
    | zero =>
      intro i2 T11 hi hne hT
      have hi2 : i2 = mny := by omega
      subst hi2
      rcases hT with rfl | ⟨q, rfl⟩
      · exact absurd rfl (hne rfl)
      · refine fs_iload (pc2 := 176) rfl rfl rfl rfl ?_
        refine fs_iload (pc2 := 178) rfl rfl rfl rfl ?_
        try simp (disch := omega) only [nI_lit, pk_mul, nI_add, pk_sub, pk_rem4, nI_clamp, up2_o, up2_s, up2_i, cpV_o, cpV_i]
        refine fs_icmp_ge (pc2 := 181) rfl rfl rfl (fun h178 => ?_) (fun h178 => ?_)
        · try simp (disch := omega) only [nI_lit, pk_mul, nI_add, pk_sub, pk_rem4, nI_clamp, up2_o, up2_s, up2_i, cpV_o, cpV_i]
          exact hnext _ _
        · have := c_lt (a := i2) (b := i2) h178 rfl rfl
          omega
    | succ k2 ih =>
      intro i2 T11 hi hne hT
      rcases hT with rfl | ⟨q, rfl⟩
      · refine fs_iload (pc2 := 176) rfl rfl rfl rfl ?_
        refine fs_iload (pc2 := 178) rfl rfl rfl rfl ?_
        try simp (disch := omega) only [nI_lit, pk_mul, nI_add, pk_sub, pk_rem4, nI_clamp, up2_o, up2_s, up2_i, cpV_o, cpV_i, w1, w2, w3, w4]
        refine fs_icmp_ge (pc2 := 181) rfl rfl rfl (fun h178 => ?_) (fun h178 => ?_)
        · have := c_nlt (a := i2) (b := mny) h178 rfl rfl
          omega
        · refine fs_bipush (pc2 := 183) rfl rfl rfl ?_
          refine fs_iload (pc2 := 185) rfl rfl rfl rfl ?_
          refine fs_imul (pc2 := 186) rfl rfl rfl ?_
          refine fs_iload (pc2 := 188) rfl rfl rfl rfl ?_
          refine fs_iadd (pc2 := 189) rfl rfl rfl ?_
          refine fs_istore (pc2 := 191) rfl rfl rfl (Nat.le_of_ble_eq_true rfl) ?_
          refine fs_aload_n (pc2 := 192) rfl rfl rfl rfl ?_
          refine fs_getr (pc2 := 195) rfl rfl rfl (by assumption) rfl ?_
          refine fs_bipush (pc2 := 197) rfl rfl rfl ?_
          refine fs_iload (pc2 := 199) rfl rfl rfl rfl ?_
          refine fs_imul (pc2 := 200) rfl rfl rfl ?_
          refine fs_iload (pc2 := 202) rfl rfl rfl rfl ?_
          refine fs_iadd (pc2 := 203) rfl rfl rfl ?_
          refine fs_iload (pc2 := 205) rfl rfl rfl rfl ?_
          try simp (disch := omega) only [nI_lit, pk_mul, nI_add, pk_sub, pk_rem4, nI_clamp, up2_o, up2_s, up2_i, cpV_o, cpV_i, w1, w2, w3, w4]
          refine fs_if_ne (pc2 := 208) rfl rfl rfl (fun h205 => ?_) (fun h205 => ?_)
          · have k205 : 27 * j + i2 ≠ 0 := c_ne (b := 0) h205 rfl rfl
            refine fs_iload (pc2 := 219) rfl rfl rfl rfl ?_
            refine fs_iconst (pc2 := 220) rfl rfl rfl ?_
            try simp (disch := omega) only [nI_lit, pk_mul, nI_add, pk_sub, pk_rem4, nI_clamp, up2_o, up2_s, up2_i, cpV_o, cpV_i, w1, w2, w3, w4]
            refine fs_icmp_ne (pc2 := 223) rfl rfl rfl (fun h220 => ?_) (fun h220 => ?_)
            · have k220 : 27 * j + i2 ≠ 1 := c_ne (b := 1) h220 rfl rfl
              refine fs_iload (pc2 := 233) rfl rfl rfl rfl ?_
              refine fs_iconst (pc2 := 234) rfl rfl rfl ?_
              try simp (disch := omega) only [nI_lit, pk_mul, nI_add, pk_sub, pk_rem4, nI_clamp, up2_o, up2_s, up2_i, cpV_o, cpV_i, w1, w2, w3, w4]
              refine fs_icmp_ne (pc2 := 237) rfl rfl rfl (fun h234 => ?_) (fun h234 => ?_)
              · have k234 : 27 * j + i2 ≠ 2 := c_ne (b := 2) h234 rfl rfl
                refine fs_iload (pc2 := 247) rfl rfl rfl rfl ?_
                refine fs_iconst (pc2 := 248) rfl rfl rfl ?_
                try simp (disch := omega) only [nI_lit, pk_mul, nI_add, pk_sub, pk_rem4, nI_clamp, up2_o, up2_s, up2_i, cpV_o, cpV_i, w1, w2, w3, w4]
                refine fs_icmp_ne (pc2 := 251) rfl rfl rfl (fun h248 => ?_) (fun h248 => ?_)
                · have k248 : 27 * j + i2 ≠ 3 := c_ne (b := 3) h248 rfl rfl
                  have est := hst (27 * j + i2 - 4) (by omega)
                  refine fs_aload_n (pc2 := 259) rfl rfl rfl rfl ?_
                  refine fs_getr (pc2 := 262) rfl rfl rfl (by assumption) rfl ?_
                  refine fs_iload (pc2 := 264) rfl rfl rfl rfl ?_
                  refine fs_iconst (pc2 := 265) rfl rfl rfl ?_
                  refine fs_isub (pc2 := 266) rfl rfl rfl ?_
                  first | simp (disch := omega) only [nI_lit, pk_mul, nI_add, pk_sub, pk_rem4, nI_clamp, up2_o, up2_s, up2_i, cpV_o, cpV_i, w1, w2, w3, w4, est] | simp (disch := omega) only [nI_lit, pk_mul, nI_add, pk_sub, pk_rem4, nI_clamp, up2_o, up2_s, up2_i, cpV_o, cpV_i, w1, w2, w3, w4] | skip
                  refine fs_iald (pc2 := 267) rfl rfl rfl (by assumption) (vp_in_nI (by omega) (by decide)) ?_
                  first | simp (disch := omega) only [nI_lit, pk_mul, nI_add, pk_sub, pk_rem4, nI_clamp, up2_o, up2_s, up2_i, cpV_o, cpV_i, w1, w2, w3, w4, est] | simp (disch := omega) only [nI_lit, pk_mul, nI_add, pk_sub, pk_rem4, nI_clamp, up2_o, up2_s, up2_i, cpV_o, cpV_i, w1, w2, w3, w4] | skip
                  refine fs_iast (pc2 := 268) rfl rfl rfl (by assumption) (vp_in_nI (by omega) (by decide)) ?_
                  refine fs_iinc (pc2 := 271) rfl rfl rfl (Nat.le_of_ble_eq_true rfl) rfl ?_
                  refine fs_goto rfl rfl ?_
                  try simp (disch := omega) only [nI_lit, pk_mul, nI_add, pk_sub, pk_rem4, nI_clamp, up2_o, up2_s, up2_i, cpV_o, cpV_i, w1, w2, w3, w4, est]
                  rw [cpV_1 (by rw [injU_4 (by omega)])]
                  exact ih (i2 + 1) [(11, .int _)] (by omega) (fun _ z => by cases z) (Or.inr ⟨_, rfl⟩)
                · have k248 : 27 * j + i2 = 3 := c_eq (b := 3) h248 rfl rfl
                  refine fs_iload_n (pc2 := 252) rfl rfl rfl rfl ?_
                  refine fs_bipush (pc2 := 254) rfl rfl rfl ?_
                  refine fs_ishr (pc2 := 255) rfl rfl rfl ?_
                  refine fs_goto rfl rfl ?_
                  first | simp (disch := omega) only [nI_lit, pk_mul, nI_add, pk_sub, pk_rem4, nI_clamp, up2_o, up2_s, up2_i, cpV_o, cpV_i, w1, w2, w3, w4, est] | simp (disch := omega) only [nI_lit, pk_mul, nI_add, pk_sub, pk_rem4, nI_clamp, up2_o, up2_s, up2_i, cpV_o, cpV_i, w1, w2, w3, w4] | skip
                  refine fs_iast (pc2 := 268) rfl rfl rfl (by assumption) (vp_in_nI (by omega) (by decide)) ?_
                  refine fs_iinc (pc2 := 271) rfl rfl rfl (Nat.le_of_ble_eq_true rfl) rfl ?_
                  refine fs_goto rfl rfl ?_
                  try simp (disch := omega) only [nI_lit, pk_mul, nI_add, pk_sub, pk_rem4, nI_clamp, up2_o, up2_s, up2_i, cpV_o, cpV_i, w1, w2, w3, w4]
                  rw [cpV_1 (by rw [k248, injU_3])]
                  exact ih (i2 + 1) [(11, .int _)] (by omega) (fun _ z => by cases z) (Or.inr ⟨_, rfl⟩)
              · have k234 : 27 * j + i2 = 2 := c_eq (b := 2) h234 rfl rfl
                refine fs_iload_n (pc2 := 238) rfl rfl rfl rfl ?_
                refine fs_sipush (pc2 := 241) rfl rfl rfl ?_
                refine fs_iand (pc2 := 242) rfl rfl rfl ?_
                refine fs_goto rfl rfl ?_
                first | simp (disch := omega) only [nI_lit, pk_mul, nI_add, pk_sub, pk_rem4, nI_clamp, up2_o, up2_s, up2_i, cpV_o, cpV_i, w1, w2, w3, w4, est] | simp (disch := omega) only [nI_lit, pk_mul, nI_add, pk_sub, pk_rem4, nI_clamp, up2_o, up2_s, up2_i, cpV_o, cpV_i, w1, w2, w3, w4] | skip
                refine fs_iast (pc2 := 268) rfl rfl rfl (by assumption) (vp_in_nI (by omega) (by decide)) ?_
                refine fs_iinc (pc2 := 271) rfl rfl rfl (Nat.le_of_ble_eq_true rfl) rfl ?_
                refine fs_goto rfl rfl ?_
                try simp (disch := omega) only [nI_lit, pk_mul, nI_add, pk_sub, pk_rem4, nI_clamp, up2_o, up2_s, up2_i, cpV_o, cpV_i, w1, w2, w3, w4]
                rw [cpV_1 (by rw [k234, injU_2])]
                exact ih (i2 + 1) [(11, .int _)] (by omega) (fun _ z => by cases z) (Or.inr ⟨_, rfl⟩)
            · have k220 : 27 * j + i2 = 1 := c_eq (b := 1) h220 rfl rfl
              refine fs_iload (pc2 := 225) rfl rfl rfl rfl ?_
              refine fs_bipush (pc2 := 227) rfl rfl rfl ?_
              refine fs_ishr (pc2 := 228) rfl rfl rfl ?_
              refine fs_goto rfl rfl ?_
              first | simp (disch := omega) only [nI_lit, pk_mul, nI_add, pk_sub, pk_rem4, nI_clamp, up2_o, up2_s, up2_i, cpV_o, cpV_i, w1, w2, w3, w4, est] | simp (disch := omega) only [nI_lit, pk_mul, nI_add, pk_sub, pk_rem4, nI_clamp, up2_o, up2_s, up2_i, cpV_o, cpV_i, w1, w2, w3, w4] | skip
              refine fs_iast (pc2 := 268) rfl rfl rfl (by assumption) (vp_in_nI (by omega) (by decide)) ?_
              refine fs_iinc (pc2 := 271) rfl rfl rfl (Nat.le_of_ble_eq_true rfl) rfl ?_
              refine fs_goto rfl rfl ?_
              try simp (disch := omega) only [nI_lit, pk_mul, nI_add, pk_sub, pk_rem4, nI_clamp, up2_o, up2_s, up2_i, cpV_o, cpV_i, w1, w2, w3, w4]
              rw [cpV_1 (by rw [k220, injU_1])]
              exact ih (i2 + 1) [(11, .int _)] (by omega) (fun _ z => by cases z) (Or.inr ⟨_, rfl⟩)
          · have k205 : 27 * j + i2 = 0 := c_eq (b := 0) h205 rfl rfl
            refine fs_iload (pc2 := 210) rfl rfl rfl rfl ?_
            refine fs_sipush (pc2 := 213) rfl rfl rfl ?_
            refine fs_iand (pc2 := 214) rfl rfl rfl ?_
            refine fs_goto rfl rfl ?_
            first | simp (disch := omega) only [nI_lit, pk_mul, nI_add, pk_sub, pk_rem4, nI_clamp, up2_o, up2_s, up2_i, cpV_o, cpV_i, w1, w2, w3, w4, est] | simp (disch := omega) only [nI_lit, pk_mul, nI_add, pk_sub, pk_rem4, nI_clamp, up2_o, up2_s, up2_i, cpV_o, cpV_i, w1, w2, w3, w4] | skip
            refine fs_iast (pc2 := 268) rfl rfl rfl (by assumption) (vp_in_nI (by omega) (by decide)) ?_
            refine fs_iinc (pc2 := 271) rfl rfl rfl (Nat.le_of_ble_eq_true rfl) rfl ?_
            refine fs_goto rfl rfl ?_
            try simp (disch := omega) only [nI_lit, pk_mul, nI_add, pk_sub, pk_rem4, nI_clamp, up2_o, up2_s, up2_i, cpV_o, cpV_i, w1, w2, w3, w4]
            rw [cpV_1 (by rw [k205, injU_0])]
            exact ih (i2 + 1) [(11, .int _)] (by omega) (fun _ z => by cases z) (Or.inr ⟨_, rfl⟩)
      · refine fs_iload (pc2 := 176) rfl rfl rfl rfl ?_
        refine fs_iload (pc2 := 178) rfl rfl rfl rfl ?_
        try simp (disch := omega) only [nI_lit, pk_mul, nI_add, pk_sub, pk_rem4, nI_clamp, up2_o, up2_s, up2_i, cpV_o, cpV_i, w1, w2, w3, w4]
        refine fs_icmp_ge (pc2 := 181) rfl rfl rfl (fun h178 => ?_) (fun h178 => ?_)
        · have := c_nlt (a := i2) (b := mny) h178 rfl rfl
          omega
        · refine fs_bipush (pc2 := 183) rfl rfl rfl ?_
          refine fs_iload (pc2 := 185) rfl rfl rfl rfl ?_
          refine fs_imul (pc2 := 186) rfl rfl rfl ?_
          refine fs_iload (pc2 := 188) rfl rfl rfl rfl ?_
          refine fs_iadd (pc2 := 189) rfl rfl rfl ?_
          refine fs_istore (pc2 := 191) rfl rfl rfl (Nat.le_of_ble_eq_true rfl) ?_
          refine fs_aload_n (pc2 := 192) rfl rfl rfl rfl ?_
          refine fs_getr (pc2 := 195) rfl rfl rfl (by assumption) rfl ?_
          refine fs_bipush (pc2 := 197) rfl rfl rfl ?_
          refine fs_iload (pc2 := 199) rfl rfl rfl rfl ?_
          refine fs_imul (pc2 := 200) rfl rfl rfl ?_
          refine fs_iload (pc2 := 202) rfl rfl rfl rfl ?_
          refine fs_iadd (pc2 := 203) rfl rfl rfl ?_
          refine fs_iload (pc2 := 205) rfl rfl rfl rfl ?_
          try simp (disch := omega) only [nI_lit, pk_mul, nI_add, pk_sub, pk_rem4, nI_clamp, up2_o, up2_s, up2_i, cpV_o, cpV_i, w1, w2, w3, w4]
          refine fs_if_ne (pc2 := 208) rfl rfl rfl (fun h205 => ?_) (fun h205 => ?_)
          · have k205 : 27 * j + i2 ≠ 0 := c_ne (b := 0) h205 rfl rfl
            refine fs_iload (pc2 := 219) rfl rfl rfl rfl ?_
            refine fs_iconst (pc2 := 220) rfl rfl rfl ?_
            try simp (disch := omega) only [nI_lit, pk_mul, nI_add, pk_sub, pk_rem4, nI_clamp, up2_o, up2_s, up2_i, cpV_o, cpV_i, w1, w2, w3, w4]
            refine fs_icmp_ne (pc2 := 223) rfl rfl rfl (fun h220 => ?_) (fun h220 => ?_)
            · have k220 : 27 * j + i2 ≠ 1 := c_ne (b := 1) h220 rfl rfl
              refine fs_iload (pc2 := 233) rfl rfl rfl rfl ?_
              refine fs_iconst (pc2 := 234) rfl rfl rfl ?_
              try simp (disch := omega) only [nI_lit, pk_mul, nI_add, pk_sub, pk_rem4, nI_clamp, up2_o, up2_s, up2_i, cpV_o, cpV_i, w1, w2, w3, w4]
              refine fs_icmp_ne (pc2 := 237) rfl rfl rfl (fun h234 => ?_) (fun h234 => ?_)
              · have k234 : 27 * j + i2 ≠ 2 := c_ne (b := 2) h234 rfl rfl
                refine fs_iload (pc2 := 247) rfl rfl rfl rfl ?_
                refine fs_iconst (pc2 := 248) rfl rfl rfl ?_
                try simp (disch := omega) only [nI_lit, pk_mul, nI_add, pk_sub, pk_rem4, nI_clamp, up2_o, up2_s, up2_i, cpV_o, cpV_i, w1, w2, w3, w4]
                refine fs_icmp_ne (pc2 := 251) rfl rfl rfl (fun h248 => ?_) (fun h248 => ?_)
                · have k248 : 27 * j + i2 ≠ 3 := c_ne (b := 3) h248 rfl rfl
                  have est := hst (27 * j + i2 - 4) (by omega)
                  refine fs_aload_n (pc2 := 259) rfl rfl rfl rfl ?_
                  refine fs_getr (pc2 := 262) rfl rfl rfl (by assumption) rfl ?_
                  refine fs_iload (pc2 := 264) rfl rfl rfl rfl ?_
                  refine fs_iconst (pc2 := 265) rfl rfl rfl ?_
                  refine fs_isub (pc2 := 266) rfl rfl rfl ?_
                  first | simp (disch := omega) only [nI_lit, pk_mul, nI_add, pk_sub, pk_rem4, nI_clamp, up2_o, up2_s, up2_i, cpV_o, cpV_i, w1, w2, w3, w4, est] | simp (disch := omega) only [nI_lit, pk_mul, nI_add, pk_sub, pk_rem4, nI_clamp, up2_o, up2_s, up2_i, cpV_o, cpV_i, w1, w2, w3, w4] | skip
                  refine fs_iald (pc2 := 267) rfl rfl rfl (by assumption) (vp_in_nI (by omega) (by decide)) ?_
                  first | simp (disch := omega) only [nI_lit, pk_mul, nI_add, pk_sub, pk_rem4, nI_clamp, up2_o, up2_s, up2_i, cpV_o, cpV_i, w1, w2, w3, w4, est] | simp (disch := omega) only [nI_lit, pk_mul, nI_add, pk_sub, pk_rem4, nI_clamp, up2_o, up2_s, up2_i, cpV_o, cpV_i, w1, w2, w3, w4] | skip
                  refine fs_iast (pc2 := 268) rfl rfl rfl (by assumption) (vp_in_nI (by omega) (by decide)) ?_
                  refine fs_iinc (pc2 := 271) rfl rfl rfl (Nat.le_of_ble_eq_true rfl) rfl ?_
                  refine fs_goto rfl rfl ?_
                  try simp (disch := omega) only [nI_lit, pk_mul, nI_add, pk_sub, pk_rem4, nI_clamp, up2_o, up2_s, up2_i, cpV_o, cpV_i, w1, w2, w3, w4, est]
                  rw [cpV_1 (by rw [injU_4 (by omega)])]
                  exact ih (i2 + 1) [(11, .int _)] (by omega) (fun _ z => by cases z) (Or.inr ⟨_, rfl⟩)
                · have k248 : 27 * j + i2 = 3 := c_eq (b := 3) h248 rfl rfl
                  refine fs_iload_n (pc2 := 252) rfl rfl rfl rfl ?_
                  refine fs_bipush (pc2 := 254) rfl rfl rfl ?_
                  refine fs_ishr (pc2 := 255) rfl rfl rfl ?_
                  refine fs_goto rfl rfl ?_
                  first | simp (disch := omega) only [nI_lit, pk_mul, nI_add, pk_sub, pk_rem4, nI_clamp, up2_o, up2_s, up2_i, cpV_o, cpV_i, w1, w2, w3, w4, est] | simp (disch := omega) only [nI_lit, pk_mul, nI_add, pk_sub, pk_rem4, nI_clamp, up2_o, up2_s, up2_i, cpV_o, cpV_i, w1, w2, w3, w4] | skip
                  refine fs_iast (pc2 := 268) rfl rfl rfl (by assumption) (vp_in_nI (by omega) (by decide)) ?_
                  refine fs_iinc (pc2 := 271) rfl rfl rfl (Nat.le_of_ble_eq_true rfl) rfl ?_
                  refine fs_goto rfl rfl ?_
                  try simp (disch := omega) only [nI_lit, pk_mul, nI_add, pk_sub, pk_rem4, nI_clamp, up2_o, up2_s, up2_i, cpV_o, cpV_i, w1, w2, w3, w4]
                  rw [cpV_1 (by rw [k248, injU_3])]
                  exact ih (i2 + 1) [(11, .int _)] (by omega) (fun _ z => by cases z) (Or.inr ⟨_, rfl⟩)
              · have k234 : 27 * j + i2 = 2 := c_eq (b := 2) h234 rfl rfl
                refine fs_iload_n (pc2 := 238) rfl rfl rfl rfl ?_
                refine fs_sipush (pc2 := 241) rfl rfl rfl ?_
                refine fs_iand (pc2 := 242) rfl rfl rfl ?_
                refine fs_goto rfl rfl ?_
                first | simp (disch := omega) only [nI_lit, pk_mul, nI_add, pk_sub, pk_rem4, nI_clamp, up2_o, up2_s, up2_i, cpV_o, cpV_i, w1, w2, w3, w4, est] | simp (disch := omega) only [nI_lit, pk_mul, nI_add, pk_sub, pk_rem4, nI_clamp, up2_o, up2_s, up2_i, cpV_o, cpV_i, w1, w2, w3, w4] | skip
                refine fs_iast (pc2 := 268) rfl rfl rfl (by assumption) (vp_in_nI (by omega) (by decide)) ?_
                refine fs_iinc (pc2 := 271) rfl rfl rfl (Nat.le_of_ble_eq_true rfl) rfl ?_
                refine fs_goto rfl rfl ?_
                try simp (disch := omega) only [nI_lit, pk_mul, nI_add, pk_sub, pk_rem4, nI_clamp, up2_o, up2_s, up2_i, cpV_o, cpV_i, w1, w2, w3, w4]
                rw [cpV_1 (by rw [k234, injU_2])]
                exact ih (i2 + 1) [(11, .int _)] (by omega) (fun _ z => by cases z) (Or.inr ⟨_, rfl⟩)
            · have k220 : 27 * j + i2 = 1 := c_eq (b := 1) h220 rfl rfl
              refine fs_iload (pc2 := 225) rfl rfl rfl rfl ?_
              refine fs_bipush (pc2 := 227) rfl rfl rfl ?_
              refine fs_ishr (pc2 := 228) rfl rfl rfl ?_
              refine fs_goto rfl rfl ?_
              first | simp (disch := omega) only [nI_lit, pk_mul, nI_add, pk_sub, pk_rem4, nI_clamp, up2_o, up2_s, up2_i, cpV_o, cpV_i, w1, w2, w3, w4, est] | simp (disch := omega) only [nI_lit, pk_mul, nI_add, pk_sub, pk_rem4, nI_clamp, up2_o, up2_s, up2_i, cpV_o, cpV_i, w1, w2, w3, w4] | skip
              refine fs_iast (pc2 := 268) rfl rfl rfl (by assumption) (vp_in_nI (by omega) (by decide)) ?_
              refine fs_iinc (pc2 := 271) rfl rfl rfl (Nat.le_of_ble_eq_true rfl) rfl ?_
              refine fs_goto rfl rfl ?_
              try simp (disch := omega) only [nI_lit, pk_mul, nI_add, pk_sub, pk_rem4, nI_clamp, up2_o, up2_s, up2_i, cpV_o, cpV_i, w1, w2, w3, w4]
              rw [cpV_1 (by rw [k220, injU_1])]
              exact ih (i2 + 1) [(11, .int _)] (by omega) (fun _ z => by cases z) (Or.inr ⟨_, rfl⟩)
          · have k205 : 27 * j + i2 = 0 := c_eq (b := 0) h205 rfl rfl
            refine fs_iload (pc2 := 210) rfl rfl rfl rfl ?_
            refine fs_sipush (pc2 := 213) rfl rfl rfl ?_
            refine fs_iand (pc2 := 214) rfl rfl rfl ?_
            refine fs_goto rfl rfl ?_
            first | simp (disch := omega) only [nI_lit, pk_mul, nI_add, pk_sub, pk_rem4, nI_clamp, up2_o, up2_s, up2_i, cpV_o, cpV_i, w1, w2, w3, w4, est] | simp (disch := omega) only [nI_lit, pk_mul, nI_add, pk_sub, pk_rem4, nI_clamp, up2_o, up2_s, up2_i, cpV_o, cpV_i, w1, w2, w3, w4] | skip
            refine fs_iast (pc2 := 268) rfl rfl rfl (by assumption) (vp_in_nI (by omega) (by decide)) ?_
            refine fs_iinc (pc2 := 271) rfl rfl rfl (Nat.le_of_ble_eq_true rfl) rfl ?_
            refine fs_goto rfl rfl ?_
            try simp (disch := omega) only [nI_lit, pk_mul, nI_add, pk_sub, pk_rem4, nI_clamp, up2_o, up2_s, up2_i, cpV_o, cpV_i, w1, w2, w3, w4]
            rw [cpV_1 (by rw [k205, injU_0])]
            exact ih (i2 + 1) [(11, .int _)] (by omega) (fun _ z => by cases z) (Or.inr ⟨_, rfl⟩)
  have outer : ∀ k2 j (V1 : fl_V) (T8 : List (Nat × Value)), j + k2 = p → Mo V1 mb T S (va_up HH h (hoW (HH h) ((HH h).2.2.2.1 ++ (List.range j).map (injPk (injUnit S num more))))) → V1 mb 0 = nI 0 → OU mb V V1 → (T8 = [] ∨ ∃ a b c e, T8 = [(8, .int a), (9, .int b), (10, .int c), (11, .int e)]) → fl_R cy z0 (ev_M cy ext (d + 6)) 7 0 0 12 (some .int) kc_X7_inject Ret 89 ([(0, .ref (z0 + mb)), (1, .int (nI h)), (2, .int (nI num)), (3, .int (nI more)), (4, .int (nI (S.length + 4))), (5, .int (nI p)), (6, .int (nI (S.length + more))), (7, .int (nI j))] ++ T8) [] sh V1 n 0 0 := by
    intro k2
    induction k2 with
    | zero =>
      intro j V1 T8 hi hM2 hf hO hT8
      have hi2 : j = p := by omega
      subst hi2
      rcases hT8 with rfl | ⟨a, b, c, e, rfl⟩
      · refine fs_iload (pc2 := 91) rfl rfl rfl rfl ?_
        refine fs_iload (pc2 := 93) rfl rfl rfl rfl ?_
        try simp (disch := omega) only [nI_lit, pk_mul, nI_add, pk_sub, pk_rem4, nI_clamp, up2_o, up2_s, up2_i, cpV_o, cpV_i]
        refine fs_icmp_ge (pc2 := 96) rfl rfl rfl (fun h93 => ?_) (fun h93 => ?_)
        · refine fs_aload_n (pc2 := 291) rfl rfl rfl rfl ?_
          try simp (disch := omega) only [nI_lit, pk_mul, nI_add, pk_sub, pk_rem4, nI_clamp, up2_o, up2_s, up2_i, cpV_o, cpV_i]
          refine fs_callv (pc2 := 294) rfl rfl rfl rfl ⟨rfl, rfl⟩ (Nat.le_of_ble_eq_true rfl) (Nat.le_of_ble_eq_true rfl) (Nat.le_of_ble_eq_true rfl) (fs_rcv rfl (by assumption)) (m_sendBoth hm hM2 hS) (fun v9 sh9 V9 n9 hp9 => ?_)
          obtain ⟨ea9, eb9, ec9, hM3, kp3⟩ := hp9
          cases ea9
          obtain rfl := eb9.symm
          obtain rfl := ec9.symm
          refine fs_iload (pc2 := 296) rfl rfl rfl rfl ?_
          try simp (disch := omega) only [nI_lit, pk_mul, nI_add, pk_sub, pk_rem4, nI_clamp, up2_o, up2_s, up2_i, cpV_o, cpV_i]
          refine fs_iret rfl rfl True.intro ?_
          exact hP _ _ _ _ ⟨rfl, rfl, rfl, hM3, by rw [kp3.1]; exact hf, hO.trans kp3.2.2⟩
        · have := c_lt (a := j) (b := j) h93 rfl rfl
          omega
      · refine fs_iload (pc2 := 91) rfl rfl rfl rfl ?_
        refine fs_iload (pc2 := 93) rfl rfl rfl rfl ?_
        try simp (disch := omega) only [nI_lit, pk_mul, nI_add, pk_sub, pk_rem4, nI_clamp, up2_o, up2_s, up2_i, cpV_o, cpV_i]
        refine fs_icmp_ge (pc2 := 96) rfl rfl rfl (fun h93 => ?_) (fun h93 => ?_)
        · refine fs_aload_n (pc2 := 291) rfl rfl rfl rfl ?_
          try simp (disch := omega) only [nI_lit, pk_mul, nI_add, pk_sub, pk_rem4, nI_clamp, up2_o, up2_s, up2_i, cpV_o, cpV_i]
          refine fs_callv (pc2 := 294) rfl rfl rfl rfl ⟨rfl, rfl⟩ (Nat.le_of_ble_eq_true rfl) (Nat.le_of_ble_eq_true rfl) (Nat.le_of_ble_eq_true rfl) (fs_rcv rfl (by assumption)) (m_sendBoth hm hM2 hS) (fun v9 sh9 V9 n9 hp9 => ?_)
          obtain ⟨ea9, eb9, ec9, hM3, kp3⟩ := hp9
          cases ea9
          obtain rfl := eb9.symm
          obtain rfl := ec9.symm
          refine fs_iload (pc2 := 296) rfl rfl rfl rfl ?_
          try simp (disch := omega) only [nI_lit, pk_mul, nI_add, pk_sub, pk_rem4, nI_clamp, up2_o, up2_s, up2_i, cpV_o, cpV_i]
          refine fs_iret rfl rfl True.intro ?_
          exact hP _ _ _ _ ⟨rfl, rfl, rfl, hM3, by rw [kp3.1]; exact hf, hO.trans kp3.2.2⟩
        · have := c_lt (a := j) (b := j) h93 rfl rfl
          omega
    | succ k2 ih =>
      intro j V1 T8 hi hM2 hf hO hT8
      have hj27 : 27 * j < S.length + 4 := by omega
      have hW := (hM2.host hh).2.2.1
      have lWj : ((HH h).2.2.2.1 ++ (List.range j).map (injPk (injUnit S num more))).length = wl + j := by rw [List.length_append, ← hwl]; simp
      have f34 : V1 (mb + 34) h = nI (wl + j) := by rw [hW.1]; congr 1
      have hst : ∀ i, i < S.length → V1 (mb + 1) i = nI (S.getD i 0) := fun i hi => by have := (hM2.1.2.2.at hi).1; rwa [Nat.zero_add] at this
      obtain ⟨mny, hmny⟩ : ∃ x, x = min (S.length + 4 - 27 * j) 27 := ⟨_, rfl⟩
      have lx : (((injUnit S num more).drop (j * 27)).take 27).length = mny := by rw [List.length_take, List.length_drop, lU]; omega
      have hby : ∀ x, (injUnit S num more).getD x 0 < 256 := by
        intro x
        by_cases q : x < 4
        · rcases (by omega : x = 0 ∨ x = 1 ∨ x = 2 ∨ x = 3) with rfl | rfl | rfl | rfl
          · rw [injU_0]; omega
          · rw [injU_1]; omega
          · rw [injU_2]; omega
          · rw [injU_3]; omega
        · rw [injU_4 (by omega)]; exact e1.bytes _
      have fin : ∀ (mk : Bool), decide (j * 27 = 0) = mk → ∀ (q r : Int32), fl_R cy z0 (ev_M cy ext (d + 6)) 7 0 0 12 (some .int) kc_X7_inject Ret 274 ([(0, .ref (z0 + mb)), (1, .int (nI h)), (2, .int (nI num)), (3, .int (nI more)), (4, .int (nI (S.length + 4))), (5, .int (nI p)), (6, .int (nI (S.length + more))), (7, .int (nI j)), (8, .int (nI (32 * h + (wl + j)))), (9, .int (nI mny)), (10, .int q)] ++ [(11, .int r)]) [] sh (cpV (up2 (up2 (up2 V1 (mb + 35) (32 * h + (wl + j)) (nI mny)) (mb + 36) (32 * h + (wl + j)) (bI mk)) (mb + 37) (32 * h + (wl + j)) (nI 0)) (mb + 38) (27 * (32 * h + (wl + j))) mny (fun b => nI ((injUnit S num more).getD (27 * j + b) 0))) n 0 0 := by
        intro mk hmk q r
        have hW2 := hW.add (mk := mk) (ow := false) (xs := ((injUnit S num more).drop (j * 27)).take 27) (f := fun b => nI ((injUnit S num more).getD (27 * j + b) 0)) hh (by show ((HH h).2.2.2.1 ++ (List.range j).map (injPk (injUnit S num more))).length < 32; omega) (by omega) (fun b hb => by
          have eg : (((injUnit S num more).drop (j * 27)).take 27).getD b 0 = (injUnit S num more).getD (27 * j + b) 0 := by
            rw [List.getD_eq_getElem?_getD, List.getElem?_take_of_lt (by omega), List.getElem?_drop, List.getD_eq_getElem?_getD, Nat.mul_comm j 27]
          exact ⟨by rw [eg], by rw [eg]; exact hby _⟩)
        rw [lx, show (hoW (HH h) ((HH h).2.2.2.1 ++ (List.range j).map (injPk (injUnit S num more)))).2.2.2.1.length = wl + j from lWj] at hW2
        have hM4 := hM2.pW hh (((((FM.refl.up (j := 35) (i := 32 * h + (wl + j)) (v := nI mny) (by simp [own] <;> omega)).up (j := 36) (i := 32 * h + (wl + j)) (v := bI mk) (by simp [own] <;> omega)).up (j := 37) (i := 32 * h + (wl + j)) (v := nI 0) (by simp [own] <;> omega)).cp (j := 38) (b := 27 * (32 * h + (wl + j))) (i := mny) (f := fun b => nI ((injUnit S num more).getD (27 * j + b) 0)) (fun x a1 a2 => by simp [own] <;> omega)).up (j := 34) (i := h) (v := nI (wl + j + 1)) (by simp [own])) hW2
        have hM5 : Mo (up2 (cpV (up2 (up2 (up2 V1 (mb + 35) (32 * h + (wl + j)) (nI mny)) (mb + 36) (32 * h + (wl + j)) (bI mk)) (mb + 37) (32 * h + (wl + j)) (nI 0)) (mb + 38) (27 * (32 * h + (wl + j))) mny (fun b => nI ((injUnit S num more).getD (27 * j + b) 0))) (mb + 34) h (nI (wl + j + 1))) mb T S (va_up HH h (hoW (HH h) ((HH h).2.2.2.1 ++ (List.range (j + 1)).map (injPk (injUnit S num more))))) := by
          rw [range_map_succ, ← List.append_assoc, show injPk (injUnit S num more) j = (mk, false, ((injUnit S num more).drop (j * 27)).take 27) from by unfold injPk; rw [hmk]]
          exact hM4
        have hf2 : (up2 (cpV (up2 (up2 (up2 V1 (mb + 35) (32 * h + (wl + j)) (nI mny)) (mb + 36) (32 * h + (wl + j)) (bI mk)) (mb + 37) (32 * h + (wl + j)) (nI 0)) (mb + 38) (27 * (32 * h + (wl + j))) mny (fun b => nI ((injUnit S num more).getD (27 * j + b) 0))) (mb + 34) h (nI (wl + j + 1))) mb 0 = nI 0 := by simp (disch := omega) only [up2_o, cpV_o]; exact hf
        have hO2 : OU mb V (up2 (cpV (up2 (up2 (up2 V1 (mb + 35) (32 * h + (wl + j)) (nI mny)) (mb + 36) (32 * h + (wl + j)) (bI mk)) (mb + 37) (32 * h + (wl + j)) (nI 0)) (mb + 38) (27 * (32 * h + (wl + j))) mny (fun b => nI ((injUnit S num more).getD (27 * j + b) 0))) (mb + 34) h (nI (wl + j + 1))) := ((((hO.up (by decide)).up (by decide)).up (by decide)).cp (by decide)).up (by decide)
        refine fs_aload_n (pc2 := 275) rfl rfl rfl rfl ?_
        refine fs_getr (pc2 := 278) rfl rfl rfl (by assumption) rfl ?_
        refine fs_iload_n (pc2 := 279) rfl rfl rfl rfl ?_
        refine fs_dup2 (pc2 := 280) rfl rfl rfl ?_
        try simp (disch := omega) only [nI_lit, pk_mul, nI_add, pk_sub, pk_rem4, nI_clamp, up2_o, up2_s, up2_i, cpV_o, cpV_i, f34]
        refine fs_iald (pc2 := 281) rfl rfl rfl (by assumption) (vp_in_nI (by omega) (by decide)) ?_
        refine fs_iconst (pc2 := 282) rfl rfl rfl ?_
        refine fs_iadd (pc2 := 283) rfl rfl rfl ?_
        try simp (disch := omega) only [nI_lit, pk_mul, nI_add, pk_sub, pk_rem4, nI_clamp, up2_o, up2_s, up2_i, cpV_o, cpV_i, f34]
        refine fs_iast (pc2 := 284) rfl rfl rfl (by assumption) (vp_in_nI (by omega) (by decide)) ?_
        refine fs_iinc (pc2 := 287) rfl rfl rfl (Nat.le_of_ble_eq_true rfl) rfl ?_
        refine fs_goto rfl rfl ?_
        try simp (disch := omega) only [nI_lit, pk_mul, nI_add, pk_sub, pk_rem4, nI_clamp, up2_o, up2_s, up2_i, cpV_o, cpV_i, f34]
        exact ih (j + 1) _ [(8, .int _), (9, .int _), (10, .int _), (11, .int _)] (by omega) hM5 hf2 hO2 (Or.inr ⟨_, _, _, _, rfl⟩)
      rcases hT8 with rfl | ⟨a, b, c, e, rfl⟩
      · refine fs_iload (pc2 := 91) rfl rfl rfl rfl ?_
        refine fs_iload (pc2 := 93) rfl rfl rfl rfl ?_
        try simp (disch := omega) only [nI_lit, pk_mul, nI_add, pk_sub, pk_rem4, nI_clamp, up2_o, up2_s, up2_i, cpV_o, cpV_i, f34, b1, b0]
        refine fs_icmp_ge (pc2 := 96) rfl rfl rfl (fun h93 => ?_) (fun h93 => ?_)
        · have := c_nlt (a := j) (b := p) h93 rfl rfl
          omega
        · refine fs_bipush (pc2 := 98) rfl rfl rfl ?_
          refine fs_iload_n (pc2 := 99) rfl rfl rfl rfl ?_
          refine fs_imul (pc2 := 100) rfl rfl rfl ?_
          refine fs_aload_n (pc2 := 101) rfl rfl rfl rfl ?_
          refine fs_getr (pc2 := 104) rfl rfl rfl (by assumption) rfl ?_
          refine fs_iload_n (pc2 := 105) rfl rfl rfl rfl ?_
          try simp (disch := omega) only [nI_lit, pk_mul, nI_add, pk_sub, pk_rem4, nI_clamp, up2_o, up2_s, up2_i, cpV_o, cpV_i, f34, b1, b0]
          refine fs_iald (pc2 := 106) rfl rfl rfl (by assumption) (vp_in_nI (by omega) (by decide)) ?_
          refine fs_iadd (pc2 := 107) rfl rfl rfl ?_
          refine fs_istore (pc2 := 109) rfl rfl rfl (Nat.le_of_ble_eq_true rfl) ?_
          refine fs_iload (pc2 := 111) rfl rfl rfl rfl ?_
          refine fs_bipush (pc2 := 113) rfl rfl rfl ?_
          refine fs_iload (pc2 := 115) rfl rfl rfl rfl ?_
          refine fs_imul (pc2 := 116) rfl rfl rfl ?_
          refine fs_isub (pc2 := 117) rfl rfl rfl ?_
          refine fs_bipush (pc2 := 119) rfl rfl rfl ?_
          try simp (disch := omega) only [nI_lit, pk_mul, nI_add, pk_sub, pk_rem4, nI_clamp, up2_o, up2_s, up2_i, cpV_o, cpV_i, f34, b1, b0]
          refine fs_icmp_ge (pc2 := 122) rfl rfl rfl (fun h119 => ?_) (fun h119 => ?_)
          · have km : mny = 27 := by have := c_nlt (b := 27) h119 rfl rfl; omega
            refine fs_bipush (pc2 := 135) rfl rfl rfl ?_
            refine fs_istore (pc2 := 137) rfl rfl rfl (Nat.le_of_ble_eq_true rfl) ?_
            refine fs_aload_n (pc2 := 138) rfl rfl rfl rfl ?_
            refine fs_getr (pc2 := 141) rfl rfl rfl (by assumption) rfl ?_
            refine fs_iload (pc2 := 143) rfl rfl rfl rfl ?_
            refine fs_iload (pc2 := 145) rfl rfl rfl rfl ?_
            try simp (disch := omega) only [nI_lit, pk_mul, nI_add, pk_sub, pk_rem4, nI_clamp, up2_o, up2_s, up2_i, cpV_o, cpV_i, f34, b1, b0]
            refine fs_iast (pc2 := 146) rfl rfl rfl (by assumption) (vp_in_nI (by omega) (by decide)) ?_
            refine fs_aload_n (pc2 := 147) rfl rfl rfl rfl ?_
            refine fs_getr (pc2 := 150) rfl rfl rfl (by assumption) rfl ?_
            refine fs_iload (pc2 := 152) rfl rfl rfl rfl ?_
            refine fs_iload (pc2 := 154) rfl rfl rfl rfl ?_
            try simp (disch := omega) only [nI_lit, pk_mul, nI_add, pk_sub, pk_rem4, nI_clamp, up2_o, up2_s, up2_i, cpV_o, cpV_i, f34, b1, b0]
            refine fs_if_ne (pc2 := 157) rfl rfl rfl (fun h154 => ?_) (fun h154 => ?_)
            · have k154 : j ≠ 0 := c_ne (b := 0) h154 rfl rfl
              refine fs_iconst (pc2 := 162) rfl rfl rfl ?_
              try simp (disch := omega) only [nI_lit, pk_mul, nI_add, pk_sub, pk_rem4, nI_clamp, up2_o, up2_s, up2_i, cpV_o, cpV_i, f34, b1, b0]
              refine fs_bast (pc2 := 163) rfl rfl rfl rfl (by assumption) (vp_in_nI (by omega) (by decide)) ?_
              refine fs_aload_n (pc2 := 164) rfl rfl rfl rfl ?_
              refine fs_getr (pc2 := 167) rfl rfl rfl (by assumption) rfl ?_
              refine fs_iload (pc2 := 169) rfl rfl rfl rfl ?_
              refine fs_iconst (pc2 := 170) rfl rfl rfl ?_
              try simp (disch := omega) only [nI_lit, pk_mul, nI_add, pk_sub, pk_rem4, nI_clamp, up2_o, up2_s, up2_i, cpV_o, cpV_i, f34, b1, b0]
              refine fs_bast (pc2 := 171) rfl rfl rfl rfl (by assumption) (vp_in_nI (by omega) (by decide)) ?_
              refine fs_iconst (pc2 := 172) rfl rfl rfl ?_
              refine fs_istore (pc2 := 174) rfl rfl rfl (Nat.le_of_ble_eq_true rfl) ?_
              try simp (disch := omega) only [nI_lit, pk_mul, nI_add, pk_sub, pk_rem4, nI_clamp, up2_o, up2_s, up2_i, cpV_o, cpV_i, f34, b1, b0]
              rw [← km]
              have l0 := inner j mny 0 V1 (by omega) (by omega) (by omega) hst (fun q r => fin false (by exact decide_eq_false (by omega)) q r) (by omega) mny 0 [] (by omega) (fun z => by omega) (by first | exact Or.inl rfl | exact Or.inr ⟨_, rfl⟩)
              rw [cpV_0] at l0
              exact l0
            · have k154 : j = 0 := c_eq (b := 0) h154 rfl rfl
              refine fs_iconst (pc2 := 158) rfl rfl rfl ?_
              refine fs_goto rfl rfl ?_
              try simp (disch := omega) only [nI_lit, pk_mul, nI_add, pk_sub, pk_rem4, nI_clamp, up2_o, up2_s, up2_i, cpV_o, cpV_i, f34, b1, b0]
              refine fs_bast (pc2 := 163) rfl rfl rfl rfl (by assumption) (vp_in_nI (by omega) (by decide)) ?_
              refine fs_aload_n (pc2 := 164) rfl rfl rfl rfl ?_
              refine fs_getr (pc2 := 167) rfl rfl rfl (by assumption) rfl ?_
              refine fs_iload (pc2 := 169) rfl rfl rfl rfl ?_
              refine fs_iconst (pc2 := 170) rfl rfl rfl ?_
              try simp (disch := omega) only [nI_lit, pk_mul, nI_add, pk_sub, pk_rem4, nI_clamp, up2_o, up2_s, up2_i, cpV_o, cpV_i, f34, b1, b0]
              refine fs_bast (pc2 := 171) rfl rfl rfl rfl (by assumption) (vp_in_nI (by omega) (by decide)) ?_
              refine fs_iconst (pc2 := 172) rfl rfl rfl ?_
              refine fs_istore (pc2 := 174) rfl rfl rfl (Nat.le_of_ble_eq_true rfl) ?_
              try simp (disch := omega) only [nI_lit, pk_mul, nI_add, pk_sub, pk_rem4, nI_clamp, up2_o, up2_s, up2_i, cpV_o, cpV_i, f34, b1, b0]
              rw [← km]
              have l0 := inner j mny 1 V1 (by omega) (by omega) (by omega) hst (fun q r => fin true (by exact decide_eq_true (by omega)) q r) (by omega) mny 0 [] (by omega) (fun z => by omega) (by first | exact Or.inl rfl | exact Or.inr ⟨_, rfl⟩)
              rw [cpV_0] at l0
              exact l0
          · have km : mny = S.length + 4 - 27 * j := by have := c_lt (b := 27) h119 rfl rfl; omega
            refine fs_iload (pc2 := 124) rfl rfl rfl rfl ?_
            refine fs_bipush (pc2 := 126) rfl rfl rfl ?_
            refine fs_iload (pc2 := 128) rfl rfl rfl rfl ?_
            refine fs_imul (pc2 := 129) rfl rfl rfl ?_
            refine fs_isub (pc2 := 130) rfl rfl rfl ?_
            refine fs_goto rfl rfl ?_
            refine fs_istore (pc2 := 137) rfl rfl rfl (Nat.le_of_ble_eq_true rfl) ?_
            refine fs_aload_n (pc2 := 138) rfl rfl rfl rfl ?_
            refine fs_getr (pc2 := 141) rfl rfl rfl (by assumption) rfl ?_
            refine fs_iload (pc2 := 143) rfl rfl rfl rfl ?_
            refine fs_iload (pc2 := 145) rfl rfl rfl rfl ?_
            try simp (disch := omega) only [nI_lit, pk_mul, nI_add, pk_sub, pk_rem4, nI_clamp, up2_o, up2_s, up2_i, cpV_o, cpV_i, f34, b1, b0]
            refine fs_iast (pc2 := 146) rfl rfl rfl (by assumption) (vp_in_nI (by omega) (by decide)) ?_
            refine fs_aload_n (pc2 := 147) rfl rfl rfl rfl ?_
            refine fs_getr (pc2 := 150) rfl rfl rfl (by assumption) rfl ?_
            refine fs_iload (pc2 := 152) rfl rfl rfl rfl ?_
            refine fs_iload (pc2 := 154) rfl rfl rfl rfl ?_
            try simp (disch := omega) only [nI_lit, pk_mul, nI_add, pk_sub, pk_rem4, nI_clamp, up2_o, up2_s, up2_i, cpV_o, cpV_i, f34, b1, b0]
            refine fs_if_ne (pc2 := 157) rfl rfl rfl (fun h154 => ?_) (fun h154 => ?_)
            · have k154 : j ≠ 0 := c_ne (b := 0) h154 rfl rfl
              refine fs_iconst (pc2 := 162) rfl rfl rfl ?_
              try simp (disch := omega) only [nI_lit, pk_mul, nI_add, pk_sub, pk_rem4, nI_clamp, up2_o, up2_s, up2_i, cpV_o, cpV_i, f34, b1, b0]
              refine fs_bast (pc2 := 163) rfl rfl rfl rfl (by assumption) (vp_in_nI (by omega) (by decide)) ?_
              refine fs_aload_n (pc2 := 164) rfl rfl rfl rfl ?_
              refine fs_getr (pc2 := 167) rfl rfl rfl (by assumption) rfl ?_
              refine fs_iload (pc2 := 169) rfl rfl rfl rfl ?_
              refine fs_iconst (pc2 := 170) rfl rfl rfl ?_
              try simp (disch := omega) only [nI_lit, pk_mul, nI_add, pk_sub, pk_rem4, nI_clamp, up2_o, up2_s, up2_i, cpV_o, cpV_i, f34, b1, b0]
              refine fs_bast (pc2 := 171) rfl rfl rfl rfl (by assumption) (vp_in_nI (by omega) (by decide)) ?_
              refine fs_iconst (pc2 := 172) rfl rfl rfl ?_
              refine fs_istore (pc2 := 174) rfl rfl rfl (Nat.le_of_ble_eq_true rfl) ?_
              try simp (disch := omega) only [nI_lit, pk_mul, nI_add, pk_sub, pk_rem4, nI_clamp, up2_o, up2_s, up2_i, cpV_o, cpV_i, f34, b1, b0]
              rw [← km]
              have l0 := inner j mny 0 V1 (by omega) (by omega) (by omega) hst (fun q r => fin false (by exact decide_eq_false (by omega)) q r) (by omega) mny 0 [] (by omega) (fun z => by omega) (by first | exact Or.inl rfl | exact Or.inr ⟨_, rfl⟩)
              rw [cpV_0] at l0
              exact l0
            · have k154 : j = 0 := c_eq (b := 0) h154 rfl rfl
              refine fs_iconst (pc2 := 158) rfl rfl rfl ?_
              refine fs_goto rfl rfl ?_
              try simp (disch := omega) only [nI_lit, pk_mul, nI_add, pk_sub, pk_rem4, nI_clamp, up2_o, up2_s, up2_i, cpV_o, cpV_i, f34, b1, b0]
              refine fs_bast (pc2 := 163) rfl rfl rfl rfl (by assumption) (vp_in_nI (by omega) (by decide)) ?_
              refine fs_aload_n (pc2 := 164) rfl rfl rfl rfl ?_
              refine fs_getr (pc2 := 167) rfl rfl rfl (by assumption) rfl ?_
              refine fs_iload (pc2 := 169) rfl rfl rfl rfl ?_
              refine fs_iconst (pc2 := 170) rfl rfl rfl ?_
              try simp (disch := omega) only [nI_lit, pk_mul, nI_add, pk_sub, pk_rem4, nI_clamp, up2_o, up2_s, up2_i, cpV_o, cpV_i, f34, b1, b0]
              refine fs_bast (pc2 := 171) rfl rfl rfl rfl (by assumption) (vp_in_nI (by omega) (by decide)) ?_
              refine fs_iconst (pc2 := 172) rfl rfl rfl ?_
              refine fs_istore (pc2 := 174) rfl rfl rfl (Nat.le_of_ble_eq_true rfl) ?_
              try simp (disch := omega) only [nI_lit, pk_mul, nI_add, pk_sub, pk_rem4, nI_clamp, up2_o, up2_s, up2_i, cpV_o, cpV_i, f34, b1, b0]
              rw [← km]
              have l0 := inner j mny 1 V1 (by omega) (by omega) (by omega) hst (fun q r => fin true (by exact decide_eq_true (by omega)) q r) (by omega) mny 0 [] (by omega) (fun z => by omega) (by first | exact Or.inl rfl | exact Or.inr ⟨_, rfl⟩)
              rw [cpV_0] at l0
              exact l0
      · refine fs_iload (pc2 := 91) rfl rfl rfl rfl ?_
        refine fs_iload (pc2 := 93) rfl rfl rfl rfl ?_
        try simp (disch := omega) only [nI_lit, pk_mul, nI_add, pk_sub, pk_rem4, nI_clamp, up2_o, up2_s, up2_i, cpV_o, cpV_i, f34, b1, b0]
        refine fs_icmp_ge (pc2 := 96) rfl rfl rfl (fun h93 => ?_) (fun h93 => ?_)
        · have := c_nlt (a := j) (b := p) h93 rfl rfl
          omega
        · refine fs_bipush (pc2 := 98) rfl rfl rfl ?_
          refine fs_iload_n (pc2 := 99) rfl rfl rfl rfl ?_
          refine fs_imul (pc2 := 100) rfl rfl rfl ?_
          refine fs_aload_n (pc2 := 101) rfl rfl rfl rfl ?_
          refine fs_getr (pc2 := 104) rfl rfl rfl (by assumption) rfl ?_
          refine fs_iload_n (pc2 := 105) rfl rfl rfl rfl ?_
          try simp (disch := omega) only [nI_lit, pk_mul, nI_add, pk_sub, pk_rem4, nI_clamp, up2_o, up2_s, up2_i, cpV_o, cpV_i, f34, b1, b0]
          refine fs_iald (pc2 := 106) rfl rfl rfl (by assumption) (vp_in_nI (by omega) (by decide)) ?_
          refine fs_iadd (pc2 := 107) rfl rfl rfl ?_
          refine fs_istore (pc2 := 109) rfl rfl rfl (Nat.le_of_ble_eq_true rfl) ?_
          refine fs_iload (pc2 := 111) rfl rfl rfl rfl ?_
          refine fs_bipush (pc2 := 113) rfl rfl rfl ?_
          refine fs_iload (pc2 := 115) rfl rfl rfl rfl ?_
          refine fs_imul (pc2 := 116) rfl rfl rfl ?_
          refine fs_isub (pc2 := 117) rfl rfl rfl ?_
          refine fs_bipush (pc2 := 119) rfl rfl rfl ?_
          try simp (disch := omega) only [nI_lit, pk_mul, nI_add, pk_sub, pk_rem4, nI_clamp, up2_o, up2_s, up2_i, cpV_o, cpV_i, f34, b1, b0]
          refine fs_icmp_ge (pc2 := 122) rfl rfl rfl (fun h119 => ?_) (fun h119 => ?_)
          · have km : mny = 27 := by have := c_nlt (b := 27) h119 rfl rfl; omega
            refine fs_bipush (pc2 := 135) rfl rfl rfl ?_
            refine fs_istore (pc2 := 137) rfl rfl rfl (Nat.le_of_ble_eq_true rfl) ?_
            refine fs_aload_n (pc2 := 138) rfl rfl rfl rfl ?_
            refine fs_getr (pc2 := 141) rfl rfl rfl (by assumption) rfl ?_
            refine fs_iload (pc2 := 143) rfl rfl rfl rfl ?_
            refine fs_iload (pc2 := 145) rfl rfl rfl rfl ?_
            try simp (disch := omega) only [nI_lit, pk_mul, nI_add, pk_sub, pk_rem4, nI_clamp, up2_o, up2_s, up2_i, cpV_o, cpV_i, f34, b1, b0]
            refine fs_iast (pc2 := 146) rfl rfl rfl (by assumption) (vp_in_nI (by omega) (by decide)) ?_
            refine fs_aload_n (pc2 := 147) rfl rfl rfl rfl ?_
            refine fs_getr (pc2 := 150) rfl rfl rfl (by assumption) rfl ?_
            refine fs_iload (pc2 := 152) rfl rfl rfl rfl ?_
            refine fs_iload (pc2 := 154) rfl rfl rfl rfl ?_
            try simp (disch := omega) only [nI_lit, pk_mul, nI_add, pk_sub, pk_rem4, nI_clamp, up2_o, up2_s, up2_i, cpV_o, cpV_i, f34, b1, b0]
            refine fs_if_ne (pc2 := 157) rfl rfl rfl (fun h154 => ?_) (fun h154 => ?_)
            · have k154 : j ≠ 0 := c_ne (b := 0) h154 rfl rfl
              refine fs_iconst (pc2 := 162) rfl rfl rfl ?_
              try simp (disch := omega) only [nI_lit, pk_mul, nI_add, pk_sub, pk_rem4, nI_clamp, up2_o, up2_s, up2_i, cpV_o, cpV_i, f34, b1, b0]
              refine fs_bast (pc2 := 163) rfl rfl rfl rfl (by assumption) (vp_in_nI (by omega) (by decide)) ?_
              refine fs_aload_n (pc2 := 164) rfl rfl rfl rfl ?_
              refine fs_getr (pc2 := 167) rfl rfl rfl (by assumption) rfl ?_
              refine fs_iload (pc2 := 169) rfl rfl rfl rfl ?_
              refine fs_iconst (pc2 := 170) rfl rfl rfl ?_
              try simp (disch := omega) only [nI_lit, pk_mul, nI_add, pk_sub, pk_rem4, nI_clamp, up2_o, up2_s, up2_i, cpV_o, cpV_i, f34, b1, b0]
              refine fs_bast (pc2 := 171) rfl rfl rfl rfl (by assumption) (vp_in_nI (by omega) (by decide)) ?_
              refine fs_iconst (pc2 := 172) rfl rfl rfl ?_
              refine fs_istore (pc2 := 174) rfl rfl rfl (Nat.le_of_ble_eq_true rfl) ?_
              try simp (disch := omega) only [nI_lit, pk_mul, nI_add, pk_sub, pk_rem4, nI_clamp, up2_o, up2_s, up2_i, cpV_o, cpV_i, f34, b1, b0]
              rw [← km]
              have l0 := inner j mny 0 V1 (by omega) (by omega) (by omega) hst (fun q r => fin false (by exact decide_eq_false (by omega)) q r) (by omega) mny 0 [(11, .int e)] (by omega) (fun z => by omega) (by first | exact Or.inl rfl | exact Or.inr ⟨_, rfl⟩)
              rw [cpV_0] at l0
              exact l0
            · have k154 : j = 0 := c_eq (b := 0) h154 rfl rfl
              refine fs_iconst (pc2 := 158) rfl rfl rfl ?_
              refine fs_goto rfl rfl ?_
              try simp (disch := omega) only [nI_lit, pk_mul, nI_add, pk_sub, pk_rem4, nI_clamp, up2_o, up2_s, up2_i, cpV_o, cpV_i, f34, b1, b0]
              refine fs_bast (pc2 := 163) rfl rfl rfl rfl (by assumption) (vp_in_nI (by omega) (by decide)) ?_
              refine fs_aload_n (pc2 := 164) rfl rfl rfl rfl ?_
              refine fs_getr (pc2 := 167) rfl rfl rfl (by assumption) rfl ?_
              refine fs_iload (pc2 := 169) rfl rfl rfl rfl ?_
              refine fs_iconst (pc2 := 170) rfl rfl rfl ?_
              try simp (disch := omega) only [nI_lit, pk_mul, nI_add, pk_sub, pk_rem4, nI_clamp, up2_o, up2_s, up2_i, cpV_o, cpV_i, f34, b1, b0]
              refine fs_bast (pc2 := 171) rfl rfl rfl rfl (by assumption) (vp_in_nI (by omega) (by decide)) ?_
              refine fs_iconst (pc2 := 172) rfl rfl rfl ?_
              refine fs_istore (pc2 := 174) rfl rfl rfl (Nat.le_of_ble_eq_true rfl) ?_
              try simp (disch := omega) only [nI_lit, pk_mul, nI_add, pk_sub, pk_rem4, nI_clamp, up2_o, up2_s, up2_i, cpV_o, cpV_i, f34, b1, b0]
              rw [← km]
              have l0 := inner j mny 1 V1 (by omega) (by omega) (by omega) hst (fun q r => fin true (by exact decide_eq_true (by omega)) q r) (by omega) mny 0 [(11, .int e)] (by omega) (fun z => by omega) (by first | exact Or.inl rfl | exact Or.inr ⟨_, rfl⟩)
              rw [cpV_0] at l0
              exact l0
          · have km : mny = S.length + 4 - 27 * j := by have := c_lt (b := 27) h119 rfl rfl; omega
            refine fs_iload (pc2 := 124) rfl rfl rfl rfl ?_
            refine fs_bipush (pc2 := 126) rfl rfl rfl ?_
            refine fs_iload (pc2 := 128) rfl rfl rfl rfl ?_
            refine fs_imul (pc2 := 129) rfl rfl rfl ?_
            refine fs_isub (pc2 := 130) rfl rfl rfl ?_
            refine fs_goto rfl rfl ?_
            refine fs_istore (pc2 := 137) rfl rfl rfl (Nat.le_of_ble_eq_true rfl) ?_
            refine fs_aload_n (pc2 := 138) rfl rfl rfl rfl ?_
            refine fs_getr (pc2 := 141) rfl rfl rfl (by assumption) rfl ?_
            refine fs_iload (pc2 := 143) rfl rfl rfl rfl ?_
            refine fs_iload (pc2 := 145) rfl rfl rfl rfl ?_
            try simp (disch := omega) only [nI_lit, pk_mul, nI_add, pk_sub, pk_rem4, nI_clamp, up2_o, up2_s, up2_i, cpV_o, cpV_i, f34, b1, b0]
            refine fs_iast (pc2 := 146) rfl rfl rfl (by assumption) (vp_in_nI (by omega) (by decide)) ?_
            refine fs_aload_n (pc2 := 147) rfl rfl rfl rfl ?_
            refine fs_getr (pc2 := 150) rfl rfl rfl (by assumption) rfl ?_
            refine fs_iload (pc2 := 152) rfl rfl rfl rfl ?_
            refine fs_iload (pc2 := 154) rfl rfl rfl rfl ?_
            try simp (disch := omega) only [nI_lit, pk_mul, nI_add, pk_sub, pk_rem4, nI_clamp, up2_o, up2_s, up2_i, cpV_o, cpV_i, f34, b1, b0]
            refine fs_if_ne (pc2 := 157) rfl rfl rfl (fun h154 => ?_) (fun h154 => ?_)
            · have k154 : j ≠ 0 := c_ne (b := 0) h154 rfl rfl
              refine fs_iconst (pc2 := 162) rfl rfl rfl ?_
              try simp (disch := omega) only [nI_lit, pk_mul, nI_add, pk_sub, pk_rem4, nI_clamp, up2_o, up2_s, up2_i, cpV_o, cpV_i, f34, b1, b0]
              refine fs_bast (pc2 := 163) rfl rfl rfl rfl (by assumption) (vp_in_nI (by omega) (by decide)) ?_
              refine fs_aload_n (pc2 := 164) rfl rfl rfl rfl ?_
              refine fs_getr (pc2 := 167) rfl rfl rfl (by assumption) rfl ?_
              refine fs_iload (pc2 := 169) rfl rfl rfl rfl ?_
              refine fs_iconst (pc2 := 170) rfl rfl rfl ?_
              try simp (disch := omega) only [nI_lit, pk_mul, nI_add, pk_sub, pk_rem4, nI_clamp, up2_o, up2_s, up2_i, cpV_o, cpV_i, f34, b1, b0]
              refine fs_bast (pc2 := 171) rfl rfl rfl rfl (by assumption) (vp_in_nI (by omega) (by decide)) ?_
              refine fs_iconst (pc2 := 172) rfl rfl rfl ?_
              refine fs_istore (pc2 := 174) rfl rfl rfl (Nat.le_of_ble_eq_true rfl) ?_
              try simp (disch := omega) only [nI_lit, pk_mul, nI_add, pk_sub, pk_rem4, nI_clamp, up2_o, up2_s, up2_i, cpV_o, cpV_i, f34, b1, b0]
              rw [← km]
              have l0 := inner j mny 0 V1 (by omega) (by omega) (by omega) hst (fun q r => fin false (by exact decide_eq_false (by omega)) q r) (by omega) mny 0 [(11, .int e)] (by omega) (fun z => by omega) (by first | exact Or.inl rfl | exact Or.inr ⟨_, rfl⟩)
              rw [cpV_0] at l0
              exact l0
            · have k154 : j = 0 := c_eq (b := 0) h154 rfl rfl
              refine fs_iconst (pc2 := 158) rfl rfl rfl ?_
              refine fs_goto rfl rfl ?_
              try simp (disch := omega) only [nI_lit, pk_mul, nI_add, pk_sub, pk_rem4, nI_clamp, up2_o, up2_s, up2_i, cpV_o, cpV_i, f34, b1, b0]
              refine fs_bast (pc2 := 163) rfl rfl rfl rfl (by assumption) (vp_in_nI (by omega) (by decide)) ?_
              refine fs_aload_n (pc2 := 164) rfl rfl rfl rfl ?_
              refine fs_getr (pc2 := 167) rfl rfl rfl (by assumption) rfl ?_
              refine fs_iload (pc2 := 169) rfl rfl rfl rfl ?_
              refine fs_iconst (pc2 := 170) rfl rfl rfl ?_
              try simp (disch := omega) only [nI_lit, pk_mul, nI_add, pk_sub, pk_rem4, nI_clamp, up2_o, up2_s, up2_i, cpV_o, cpV_i, f34, b1, b0]
              refine fs_bast (pc2 := 171) rfl rfl rfl rfl (by assumption) (vp_in_nI (by omega) (by decide)) ?_
              refine fs_iconst (pc2 := 172) rfl rfl rfl ?_
              refine fs_istore (pc2 := 174) rfl rfl rfl (Nat.le_of_ble_eq_true rfl) ?_
              try simp (disch := omega) only [nI_lit, pk_mul, nI_add, pk_sub, pk_rem4, nI_clamp, up2_o, up2_s, up2_i, cpV_o, cpV_i, f34, b1, b0]
              rw [← km]
              have l0 := inner j mny 1 V1 (by omega) (by omega) (by omega) hst (fun q r => fin true (by exact decide_eq_true (by omega)) q r) (by omega) mny 0 [(11, .int e)] (by omega) (fun z => by omega) (by first | exact Or.inl rfl | exact Or.inr ⟨_, rfl⟩)
              rw [cpV_0] at l0
              exact l0
  refine fs_aload_n (pc2 := 1) rfl rfl rfl rfl ?_
  refine fs_iload_n (pc2 := 2) rfl rfl rfl rfl ?_
  try simp (disch := omega) only [nI_lit, pk_mul, nI_add, pk_sub, pk_rem4, nI_clamp, up2_o, up2_s, up2_i, cpV_o, cpV_i, e2, e34, pk_div, ep1, ep2, ep3]
  refine fs_calls (pc2 := 5) rfl rfl rfl rfl rfl rfl ⟨rfl, rfl⟩ (Nat.le_of_ble_eq_true rfl) (Nat.le_of_ble_eq_true rfl) (Nat.le_of_ble_eq_true rfl) (m_isHost (u := nI h)) (fun v9 sh9 V9 n9 hp9 => ?_)
  obtain ⟨ea9, eb9, ec9, hv9⟩ := hp9
  cases ea9
  obtain rfl := eb9.symm
  obtain rfl := ec9.symm
  cases hv9
  rw [hHo]
  try simp (disch := omega) only [nI_lit, pk_mul, nI_add, pk_sub, pk_rem4, nI_clamp, up2_o, up2_s, up2_i, cpV_o, cpV_i, e2, e34, pk_div, ep1, ep2, ep3]
  refine fs_if_eq (pc2 := 8) rfl rfl rfl (fun h5 => ?_) (fun h5 => ?_)
  · first | exact absurd h5 (by decide) | exact absurd (by decide) h5
  · refine fs_iload_n (pc2 := 9) rfl rfl rfl rfl ?_
    refine fs_iconst (pc2 := 10) rfl rfl rfl ?_
    refine fs_ldc (pc2 := 12) rfl rfl rfl ?_
    try simp (disch := omega) only [nI_lit, pk_mul, nI_add, pk_sub, pk_rem4, nI_clamp, up2_o, up2_s, up2_i, cpV_o, cpV_i, e2, e34, pk_div, ep1, ep2, ep3]
    refine fs_calls (pc2 := 15) rfl rfl rfl rfl rfl rfl ⟨rfl, rfl⟩ (Nat.le_of_ble_eq_true rfl) (Nat.le_of_ble_eq_true rfl) (Nat.le_of_ble_eq_true rfl) (m_isIn (u := nI num) (a := nI 0) (b := nI 65535)) (fun v9 sh9 V9 n9 hp9 => ?_)
    obtain ⟨ea9, eb9, ec9, hv9⟩ := hp9
    cases ea9
    obtain rfl := eb9.symm
    obtain rfl := ec9.symm
    cases hv9
    rw [hI1]
    try simp (disch := omega) only [nI_lit, pk_mul, nI_add, pk_sub, pk_rem4, nI_clamp, up2_o, up2_s, up2_i, cpV_o, cpV_i, e2, e34, pk_div, ep1, ep2, ep3]
    refine fs_if_eq (pc2 := 18) rfl rfl rfl (fun h15 => ?_) (fun h15 => ?_)
    · first | exact absurd h15 (by decide) | exact absurd (by decide) h15
    · refine fs_iload_n (pc2 := 19) rfl rfl rfl rfl ?_
      refine fs_iconst (pc2 := 20) rfl rfl rfl ?_
      refine fs_bipush (pc2 := 22) rfl rfl rfl ?_
      try simp (disch := omega) only [nI_lit, pk_mul, nI_add, pk_sub, pk_rem4, nI_clamp, up2_o, up2_s, up2_i, cpV_o, cpV_i, e2, e34, pk_div, ep1, ep2, ep3]
      refine fs_calls (pc2 := 25) rfl rfl rfl rfl rfl rfl ⟨rfl, rfl⟩ (Nat.le_of_ble_eq_true rfl) (Nat.le_of_ble_eq_true rfl) (Nat.le_of_ble_eq_true rfl) (m_isIn (u := nI more) (a := nI 0) (b := nI 100)) (fun v9 sh9 V9 n9 hp9 => ?_)
      obtain ⟨ea9, eb9, ec9, hv9⟩ := hp9
      cases ea9
      obtain rfl := eb9.symm
      obtain rfl := ec9.symm
      cases hv9
      rw [hI2]
      try simp (disch := omega) only [nI_lit, pk_mul, nI_add, pk_sub, pk_rem4, nI_clamp, up2_o, up2_s, up2_i, cpV_o, cpV_i, e2, e34, pk_div, ep1, ep2, ep3]
      refine fs_if_eq (pc2 := 28) rfl rfl rfl (fun h25 => ?_) (fun h25 => ?_)
      · first | exact absurd h25 (by decide) | exact absurd (by decide) h25
      · refine fs_iconst (pc2 := 29) rfl rfl rfl ?_
        refine fs_goto rfl rfl ?_
        try simp (disch := omega) only [nI_lit, pk_mul, nI_add, pk_sub, pk_rem4, nI_clamp, up2_o, up2_s, up2_i, cpV_o, cpV_i, e2, e34, pk_div, ep1, ep2, ep3]
        refine fs_callv (pc2 := 36) rfl rfl rfl rfl ⟨rfl, rfl⟩ (Nat.le_of_ble_eq_true rfl) (Nat.le_of_ble_eq_true rfl) (Nat.le_of_ble_eq_true rfl) (fs_rcv rfl (by assumption)) (m_refusedE hm (w := nI 0)) (fun v9 sh9 V9 n9 hp9 => ?_)
        obtain ⟨ea9, eb9, ec9, hv9⟩ := hp9
        cases ea9
        obtain rfl := eb9.symm
        obtain rfl := ec9.symm
        cases hv9
        rw [rf0]
        try simp (disch := omega) only [nI_lit, pk_mul, nI_add, pk_sub, pk_rem4, nI_clamp, up2_o, up2_s, up2_i, cpV_o, cpV_i, e2, e34, pk_div, ep1, ep2, ep3]
        refine fs_if_eq (pc2 := 39) rfl rfl rfl (fun h36 => ?_) (fun h36 => ?_)
        · refine fs_aload_n (pc2 := 42) rfl rfl rfl rfl ?_
          refine fs_geti (pc2 := 45) rfl rfl rfl (by assumption) rfl ?_
          refine fs_iconst (pc2 := 46) rfl rfl rfl ?_
          refine fs_iadd (pc2 := 47) rfl rfl rfl ?_
          refine fs_istore (pc2 := 49) rfl rfl rfl (Nat.le_of_ble_eq_true rfl) ?_
          refine fs_iload (pc2 := 51) rfl rfl rfl rfl ?_
          refine fs_bipush (pc2 := 53) rfl rfl rfl ?_
          refine fs_iadd (pc2 := 54) rfl rfl rfl ?_
          refine fs_iconst (pc2 := 55) rfl rfl rfl ?_
          refine fs_isub (pc2 := 56) rfl rfl rfl ?_
          refine fs_bipush (pc2 := 58) rfl rfl rfl ?_
          refine fs_idiv (pc2 := 59) rfl rfl rfl (by decide) ?_
          refine fs_istore (pc2 := 61) rfl rfl rfl (Nat.le_of_ble_eq_true rfl) ?_
          refine fs_aload_n (pc2 := 62) rfl rfl rfl rfl ?_
          refine fs_getr (pc2 := 65) rfl rfl rfl (by assumption) rfl ?_
          refine fs_iload_n (pc2 := 66) rfl rfl rfl rfl ?_
          try simp (disch := omega) only [nI_lit, pk_mul, nI_add, pk_sub, pk_rem4, nI_clamp, up2_o, up2_s, up2_i, cpV_o, cpV_i, e2, e34, pk_div, ep1, ep2, ep3]
          refine fs_iald (pc2 := 67) rfl rfl rfl (by assumption) (vp_in_nI (by omega) (by decide)) ?_
          refine fs_iload (pc2 := 69) rfl rfl rfl rfl ?_
          refine fs_iadd (pc2 := 70) rfl rfl rfl ?_
          refine fs_bipush (pc2 := 72) rfl rfl rfl ?_
          try simp (disch := omega) only [nI_lit, pk_mul, nI_add, pk_sub, pk_rem4, nI_clamp, up2_o, up2_s, up2_i, cpV_o, cpV_i, e2, e34, pk_div, ep1, ep2, ep3]
          refine fs_icmp_le (pc2 := 75) rfl rfl rfl (fun h72 => ?_) (fun h72 => ?_)
          · refine fs_aload_n (pc2 := 79) rfl rfl rfl rfl ?_
            refine fs_geti (pc2 := 82) rfl rfl rfl (by assumption) rfl ?_
            refine fs_iload_n (pc2 := 83) rfl rfl rfl rfl ?_
            refine fs_iadd (pc2 := 84) rfl rfl rfl ?_
            refine fs_istore (pc2 := 86) rfl rfl rfl (Nat.le_of_ble_eq_true rfl) ?_
            refine fs_iconst (pc2 := 87) rfl rfl rfl ?_
            refine fs_istore (pc2 := 89) rfl rfl rfl (Nat.le_of_ble_eq_true rfl) ?_
            try simp (disch := omega) only [nI_lit, pk_mul, nI_add, pk_sub, pk_rem4, nI_clamp, up2_o, up2_s, up2_i, cpV_o, cpV_i, e2, e34, pk_div, ep1, ep2, ep3]
            exact outer p 0 _ [] (by omega) (by simpa using hM1) up2_s OU.zero (Or.inl rfl)
          · have := c_nle (b := 32) h72 rfl rfl
            omega
        · first | exact absurd h36 (by decide) | exact absurd (by decide) h36
end MINJ
