theorem MC.shiftT {V : fl_V} {mb c : Nat} {y : Ch} {t : List Nat} {ts : List (List Nat)} {v : Int32} {f : Nat → Int32} (hM : MC V mb c y) (ht : y.2.2.1 = t :: ts) (hv : v = V (mb + 16) (2 * c + 1)) (hf : ∀ j, f j = V (mb + 17) (120 * (2 * c) + 120 + j)) : MC (cpV (up2 (up2 V (mb + 15) c (nI ts.length)) (mb + 16) (2 * c) v) (mb + 17) (120 * (2 * c)) 120 f) mb c (y.1, y.2.1, ts, y.2.2.2) := by
  obtain ⟨g1, g1b, g2, g3, g4, g5, g6, g7, g8, g9, g10, g11⟩ := hM
  rw [ht] at g3 g4 g5
  simp only [List.length_cons] at g4
  refine ⟨fun p hp => ?_, g1b, ?_, ?_, by dsimp only; omega, fun q x hq => ?_, ?_, g7, ?_, ?_, g10, fun q x hq => ?_⟩
  · have c2 := chO_2 p hp
    rw [cpV_o (by omega), up2_o (by omega), up2_o (by omega)]; exact g1 p hp
  · rw [cpV_o (by omega), up2_o (by omega), up2_o (by omega)]; exact g2
  · rw [cpV_o (by omega), up2_o (by omega), up2_s]
  · have lq := (List.getElem?_eq_some_iff.mp hq).1
    have q0 : q = 0 := by simp at lq; omega
    subst q0
    obtain ⟨a1, a2, a3, a4, a5⟩ := g5 1 x (by simpa using hq)
    refine ⟨?_, a2, a3, a4, fun j b hj => ?_⟩
    · rw [cpV_o (by omega), Nat.add_zero (2 * c), up2_s, hv]; exact a1
    · have lj := (List.getElem?_eq_some_iff.mp hj).1
      simp only [List.length_drop] at lj
      rw [cpV_s (by omega), hf]
      have := a5 j b hj
      rw [show 120 * (2 * c) + 120 + (120 * (2 * c + 0) + j - 120 * (2 * c)) = 120 * (2 * c + 1) + j by omega]
      exact this
  · rw [cpV_o (by omega), up2_o (by omega), up2_o (by omega)]; exact g6
  · rw [cpV_o (by omega), up2_o (by omega), up2_o (by omega)]; exact g8
  · rw [cpV_o (by omega), up2_o (by omega), up2_o (by omega)]; exact g9
  · rw [cpV_o (by omega), up2_o (by omega), up2_o (by omega), cpV_o (by omega), up2_o (by omega), up2_o (by omega)]; exact g11 q x hq
theorem Mo.pWo {V V' : fl_V} {mb h ho : Nat} {T : Nat → Nat} {S : List Nat} {HH : Nat → Ho} {H O : Ho} {ps ps' : List Pkt} (hM : Mo V mb T S (va_up (va_up HH ho (hoW O ps)) h H)) (hn : h ≠ ho) (hh : ho < 2) (hF : FM mb (12 + ho) V V') (hW : MW V' mb ho ps') : Mo V' mb T S (va_up (va_up HH ho (hoW O ps')) h H) := by
  rw [va_up_swap (Ne.symm hn)] at hM ⊢
  exact hM.pW hh hF hW
theorem Mo.oW {V : fl_V} {mb h ho : Nat} {T : Nat → Nat} {S : List Nat} {HH : Nat → Ho} {H O : Ho} {ps : List Pkt} (hM : Mo V mb T S (va_up (va_up HH ho (hoW O ps)) h H)) (hn : h ≠ ho) (hh : ho < 2) : MW V mb ho ps := by
  rw [va_up_swap (Ne.symm hn)] at hM
  exact (hM.host hh).2.2.1
theorem getD_ar {a b : List Nat} {j : Nat} (h : a.length ≤ j) : (a ++ b).getD j 0 = b.getD (j - a.length) 0 := by
  simp only [List.getD_eq_getElem?_getD, List.getElem?_append_right h]
theorem take_one {x : List Nat} {i : Nat} (h : i < x.length) : x.take i ++ [x.getD i 0] = x.take (i + 1) := by
  rw [List.take_add_one, List.getD_eq_getElem?_getD, List.getElem?_eq_getElem h]; rfl
theorem take_min {x : List Nat} {a : Nat} : (x.drop a).take (min (x.length - a) 27) = (x.drop a).take 27 := by
  rw [List.take_eq_take_iff]
  simp
  omega
section MSEND
variable {cy : Nat → ClassId} {z0 : Nat} {ext : Nat → Nat → List Value → ev_H → Nat → ev_P → Prop} {d : Nat} {sh : fl_S} {V : fl_V} {n mb : Nat} {T : Nat → Nat} {S : List Nat} {HH : Nat → Ho} {H : Ho} {h k : Nat}
set_option maxRecDepth 100000 in
set_option maxHeartbeats 4000000 in
theorem m_textByte (hm : isMo sh mb) {t j : Nat} {bd : List Nat} (ht : t < 16) (e16 : V (mb + 16) t = nI bd.length) (lb : bd.length ≤ 120) (hb : ML (V (mb + 17)) (120 * t) bd) (hj : j < bd.length + 2) : fl_M cy z0 ext (d + 1) m_X7_textByte [.ref (z0 + mb), .int (nI t), .int (nI j)] sh V n (fun v sh' V' n' => v = some (.int (nI ((two bd.length ++ bd).getD j 0))) ∧ sh' = sh ∧ n' = n ∧ V' = V) := by
  have m0 := hm.1
  have a16 : sh (mb + 16) = some (.inl (1, 16, none)) := hm.2 15 (1, 16) rfl
  have a17 : sh (mb + 17) = some (.inl (1, 1920, none)) := hm.2 16 (1, 1920) rfl
  have w1 : nI bd.length &&& nI 255 = nI (bd.length % 256) := nI_255 (by omega)
  have w2 : (nI bd.length >>> (nI 8 &&& nI 31)) = nI (bd.length / 256) := nI_shr8 (by omega)
  have e17 : 2 ≤ j → V (mb + 17) (120 * t + j - 2) = nI (bd.getD (j - 2) 0) := fun q => by
    rw [show 120 * t + j - 2 = 120 * t + (j - 2) by omega]; exact (hb.at (by omega)).1
  refine fs_body rfl rfl (fun Ret hP => ?_)
  refine fs_iload_n (pc2 := 1) rfl rfl rfl rfl ?_
  try simp (disch := omega) only [nI_lit, pk_mul, nI_add, pk_sub, pk_rem4, nI_clamp, up2_o, up2_s, up2_i, cpV_o, cpV_i, e16, w1, w2]
  refine fs_if_ne (pc2 := 4) rfl rfl rfl (fun h1 => ?_) (fun h1 => ?_)
  · have k1 : j ≠ 0 := c_ne (b := 0) h1 rfl rfl
    refine fs_iload_n (pc2 := 18) rfl rfl rfl rfl ?_
    refine fs_iconst (pc2 := 19) rfl rfl rfl ?_
    try simp (disch := omega) only [nI_lit, pk_mul, nI_add, pk_sub, pk_rem4, nI_clamp, up2_o, up2_s, up2_i, cpV_o, cpV_i, e16, w1, w2]
    refine fs_icmp_ne (pc2 := 22) rfl rfl rfl (fun h19 => ?_) (fun h19 => ?_)
    · have k19 : j ≠ 1 := c_ne (b := 1) h19 rfl rfl
      have e17b := e17 (by omega)
      refine fs_aload_n (pc2 := 35) rfl rfl rfl rfl ?_
      refine fs_getr (pc2 := 38) rfl rfl rfl (by assumption) rfl ?_
      refine fs_bipush (pc2 := 40) rfl rfl rfl ?_
      refine fs_iload_n (pc2 := 41) rfl rfl rfl rfl ?_
      refine fs_imul (pc2 := 42) rfl rfl rfl ?_
      refine fs_iload_n (pc2 := 43) rfl rfl rfl rfl ?_
      refine fs_iadd (pc2 := 44) rfl rfl rfl ?_
      refine fs_iconst (pc2 := 45) rfl rfl rfl ?_
      refine fs_isub (pc2 := 46) rfl rfl rfl ?_
      first | simp (disch := omega) only [nI_lit, pk_mul, nI_add, pk_sub, pk_rem4, nI_clamp, up2_o, up2_s, up2_i, cpV_o, cpV_i, e16, w1, w2, e17b] | simp (disch := omega) only [nI_lit, pk_mul, nI_add, pk_sub, pk_rem4, nI_clamp, up2_o, up2_s, up2_i, cpV_o, cpV_i, e16, w1, w2] | skip
      refine fs_iald (pc2 := 47) rfl rfl rfl (by assumption) (vp_in_nI (by omega) (by decide)) ?_
      first | simp (disch := omega) only [nI_lit, pk_mul, nI_add, pk_sub, pk_rem4, nI_clamp, up2_o, up2_s, up2_i, cpV_o, cpV_i, e16, w1, w2, e17b] | simp (disch := omega) only [nI_lit, pk_mul, nI_add, pk_sub, pk_rem4, nI_clamp, up2_o, up2_s, up2_i, cpV_o, cpV_i, e16, w1, w2] | skip
      refine fs_iret rfl rfl True.intro ?_
      refine hP _ _ _ _ ⟨?_, rfl, rfl, rfl⟩
      rw [getD_ar (by simp [two]; omega)]
      rfl
    · have k19 : j = 1 := c_eq (b := 1) h19 rfl rfl
      subst k19
      refine fs_aload_n (pc2 := 23) rfl rfl rfl rfl ?_
      refine fs_getr (pc2 := 26) rfl rfl rfl (by assumption) rfl ?_
      refine fs_iload_n (pc2 := 27) rfl rfl rfl rfl ?_
      try simp (disch := omega) only [nI_lit, pk_mul, nI_add, pk_sub, pk_rem4, nI_clamp, up2_o, up2_s, up2_i, cpV_o, cpV_i, e16, w1, w2]
      refine fs_iald (pc2 := 28) rfl rfl rfl (by assumption) (vp_in_nI (by omega) (by decide)) ?_
      refine fs_bipush (pc2 := 30) rfl rfl rfl ?_
      refine fs_ishr (pc2 := 31) rfl rfl rfl ?_
      refine fs_goto rfl rfl ?_
      first | simp (disch := omega) only [nI_lit, pk_mul, nI_add, pk_sub, pk_rem4, nI_clamp, up2_o, up2_s, up2_i, cpV_o, cpV_i, e16, w1, w2, e17b] | simp (disch := omega) only [nI_lit, pk_mul, nI_add, pk_sub, pk_rem4, nI_clamp, up2_o, up2_s, up2_i, cpV_o, cpV_i, e16, w1, w2] | skip
      refine fs_iret rfl rfl True.intro ?_
      exact hP _ _ _ _ ⟨rfl, rfl, rfl, rfl⟩
  · have k1 : j = 0 := c_eq (b := 0) h1 rfl rfl
    subst k1
    refine fs_aload_n (pc2 := 5) rfl rfl rfl rfl ?_
    refine fs_getr (pc2 := 8) rfl rfl rfl (by assumption) rfl ?_
    refine fs_iload_n (pc2 := 9) rfl rfl rfl rfl ?_
    try simp (disch := omega) only [nI_lit, pk_mul, nI_add, pk_sub, pk_rem4, nI_clamp, up2_o, up2_s, up2_i, cpV_o, cpV_i, e16, w1, w2]
    refine fs_iald (pc2 := 10) rfl rfl rfl (by assumption) (vp_in_nI (by omega) (by decide)) ?_
    refine fs_sipush (pc2 := 13) rfl rfl rfl ?_
    refine fs_iand (pc2 := 14) rfl rfl rfl ?_
    refine fs_goto rfl rfl ?_
    first | simp (disch := omega) only [nI_lit, pk_mul, nI_add, pk_sub, pk_rem4, nI_clamp, up2_o, up2_s, up2_i, cpV_o, cpV_i, e16, w1, w2, e17b] | simp (disch := omega) only [nI_lit, pk_mul, nI_add, pk_sub, pk_rem4, nI_clamp, up2_o, up2_s, up2_i, cpV_o, cpV_i, e16, w1, w2] | skip
    refine fs_iret rfl rfl True.intro ?_
    exact hP _ _ _ _ ⟨rfl, rfl, rfl, rfl⟩
set_option maxRecDepth 100000 in
set_option maxHeartbeats 4000000 in
theorem m_nextChannel (hm : isMo sh mb) (hM : Mo V mb T S (va_up HH h H)) (hh : h < 2) (hN : H.1 10 < 4) : fl_M cy z0 ext (d + 1) m_X7_nextChannel [.ref (z0 + mb), .int (nI h)] sh V n (fun v sh' V' n' => v = some (.int (match ho_next H with | some i => nI (4 * h + (H.1 10 + i) % 4) | none => -1)) ∧ sh' = sh ∧ n' = n ∧ V' = V) := by
  have m0 := hm.1
  have a6 : sh (mb + 6) = some (.inl (1, 8, none)) := hm.2 5 (1, 8) rfl
  have a13 : sh (mb + 13) = some (.inl (1, 8, none)) := hm.2 12 (1, 8) rfl
  have a15 : sh (mb + 15) = some (.inl (1, 8, none)) := hm.2 14 (1, 8) rfl
  have a30 : sh (mb + 30) = some (.inl (1, 2, none)) := hm.2 29 (1, 2) rfl
  obtain ⟨l, l4, e30, l10⟩ := (hM.host hh).1.2.2.1
  refine fs_body rfl rfl (fun Ret hP => ?_)
  have loop : ∀ j i (T2 : List (Nat × Value)), i + j = 4 → (T2 = [] ∨ ∃ q, T2 = [(3, .int q)]) → (∀ q, q < i → ch_seg (H.2.1 ((H.1 10 + q) % 4)) = false) → fl_R cy z0 (ev_M cy ext d) 7 0 0 4 (some .int) kc_X7_nextChannel Ret 2 ([(0, .ref (z0 + mb)), (1, .int (nI h)), (2, .int (nI (i + 1)))] ++ T2) [] sh V n 0 0 := by
    intro j
    induction j with
    | zero =>
      intro i T2 hi hT2 hn
      have hi2 : i = 4 := by omega
      subst hi2
      rw [show ho_next H = none from first4_none hn] at hP
      rcases hT2 with rfl | ⟨q, rfl⟩
      · refine fs_iload_n (pc2 := 3) rfl rfl rfl rfl ?_
        refine fs_iconst (pc2 := 4) rfl rfl rfl ?_
        try simp (disch := omega) only [nI_lit, pk_mul, nI_add, pk_sub, pk_rem4, nI_clamp, up2_o, up2_s, up2_i, cpV_o, cpV_i]
        refine fs_icmp_gt (pc2 := 7) rfl rfl rfl (fun h4 => ?_) (fun h4 => ?_)
        · refine fs_iconst (pc2 := 59) rfl rfl rfl ?_
          try simp (disch := omega) only [nI_lit, pk_mul, nI_add, pk_sub, pk_rem4, nI_clamp, up2_o, up2_s, up2_i, cpV_o, cpV_i]
          refine fs_iret rfl rfl True.intro ?_
          exact hP _ _ _ _ ⟨rfl, rfl, rfl, rfl⟩
        · exact absurd h4 (by decide)
      · refine fs_iload_n (pc2 := 3) rfl rfl rfl rfl ?_
        refine fs_iconst (pc2 := 4) rfl rfl rfl ?_
        try simp (disch := omega) only [nI_lit, pk_mul, nI_add, pk_sub, pk_rem4, nI_clamp, up2_o, up2_s, up2_i, cpV_o, cpV_i]
        refine fs_icmp_gt (pc2 := 7) rfl rfl rfl (fun h4 => ?_) (fun h4 => ?_)
        · refine fs_iconst (pc2 := 59) rfl rfl rfl ?_
          try simp (disch := omega) only [nI_lit, pk_mul, nI_add, pk_sub, pk_rem4, nI_clamp, up2_o, up2_s, up2_i, cpV_o, cpV_i]
          refine fs_iret rfl rfl True.intro ?_
          exact hP _ _ _ _ ⟨rfl, rfl, rfl, rfl⟩
        · exact absurd h4 (by decide)
    | succ j ih =>
      intro i T2 hi hT2 hn
      obtain ⟨c, hc⟩ : ∃ c, c = (H.1 10 + i) % 4 := ⟨_, rfl⟩
      have ec : (l + (i + 1)) % 4 = c := by omega
      have hC := (hM.host hh).2.2.2.2.2.2 c (by omega)
      obtain ⟨e6, l6⟩ := hC.num (1, 6) (by decide)
      obtain ⟨e13, l13⟩ := hC.num (9, 13) (by decide)
      have e15 := hC.2.2.2.1
      have l15 := hC.2.2.2.2.1
      dsimp only at e6 e13 l6 l13
      have go : ch_seg (H.2.1 c) = false → ∀ q, q < i + 1 → ch_seg (H.2.1 ((H.1 10 + q) % 4)) = false := by
        intro hseg j hji
        by_cases hj2 : j = i
        · rw [hj2, ← hc]; exact hseg
        · exact hn j (by omega)
      rcases hT2 with rfl | ⟨q, rfl⟩
      · refine fs_iload_n (pc2 := 3) rfl rfl rfl rfl ?_
        refine fs_iconst (pc2 := 4) rfl rfl rfl ?_
        try simp (disch := omega) only [nI_lit, pk_mul, nI_add, pk_sub, pk_rem4, nI_clamp, up2_o, up2_s, up2_i, cpV_o, cpV_i, e30, ec, e6, e13, e15]
        refine fs_icmp_gt (pc2 := 7) rfl rfl rfl (fun h4 => ?_) (fun h4 => ?_)
        · exact absurd (nI_le (a := i + 1) (b := 4) (by omega) (by decide)) h4
        · refine fs_iconst (pc2 := 8) rfl rfl rfl ?_
          refine fs_iload_n (pc2 := 9) rfl rfl rfl rfl ?_
          refine fs_imul (pc2 := 10) rfl rfl rfl ?_
          refine fs_aload_n (pc2 := 11) rfl rfl rfl rfl ?_
          refine fs_getr (pc2 := 14) rfl rfl rfl (by assumption) rfl ?_
          refine fs_iload_n (pc2 := 15) rfl rfl rfl rfl ?_
          try simp (disch := omega) only [nI_lit, pk_mul, nI_add, pk_sub, pk_rem4, nI_clamp, up2_o, up2_s, up2_i, cpV_o, cpV_i, e30, ec, e6, e13, e15]
          refine fs_iald (pc2 := 16) rfl rfl rfl (by assumption) (vp_in_nI (by omega) (by decide)) ?_
          refine fs_iload_n (pc2 := 17) rfl rfl rfl rfl ?_
          refine fs_iadd (pc2 := 18) rfl rfl rfl ?_
          refine fs_iconst (pc2 := 19) rfl rfl rfl ?_
          refine fs_irem (pc2 := 20) rfl rfl rfl (by decide) ?_
          refine fs_iadd (pc2 := 21) rfl rfl rfl ?_
          refine fs_istore_n (pc2 := 22) rfl rfl rfl (Nat.le_of_ble_eq_true rfl) ?_
          refine fs_aload_n (pc2 := 23) rfl rfl rfl rfl ?_
          refine fs_getr (pc2 := 26) rfl rfl rfl (by assumption) rfl ?_
          refine fs_iload_n (pc2 := 27) rfl rfl rfl rfl ?_
          try simp (disch := omega) only [nI_lit, pk_mul, nI_add, pk_sub, pk_rem4, nI_clamp, up2_o, up2_s, up2_i, cpV_o, cpV_i, e30, ec, e6, e13, e15]
          refine fs_iald (pc2 := 28) rfl rfl rfl (by assumption) (vp_in_nI (by omega) (by decide)) ?_
          refine fs_iconst (pc2 := 29) rfl rfl rfl ?_
          try simp (disch := omega) only [nI_lit, pk_mul, nI_add, pk_sub, pk_rem4, nI_clamp, up2_o, up2_s, up2_i, cpV_o, cpV_i, e30, ec, e6, e13, e15]
          refine fs_icmp_ne (pc2 := 32) rfl rfl rfl (fun h29 => ?_) (fun h29 => ?_)
          · have k29 : (H.2.1 c).1 1 ≠ 2 := c_ne (b := 2) h29 rfl rfl
            refine fs_iinc (pc2 := 55) rfl rfl rfl (Nat.le_of_ble_eq_true rfl) rfl ?_
            refine fs_goto rfl rfl ?_
            try simp (disch := omega) only [nI_lit, pk_mul, nI_add, pk_sub, pk_rem4, nI_clamp, up2_o, up2_s, up2_i, cpV_o, cpV_i]
            exact ih (i + 1) _ (by omega) (Or.inr ⟨_, rfl⟩) (go (by simp [ch_seg, k29]))
          · have k29 : (H.2.1 c).1 1 = 2 := c_eq (b := 2) h29 rfl rfl
            refine fs_aload_n (pc2 := 33) rfl rfl rfl rfl ?_
            refine fs_getr (pc2 := 36) rfl rfl rfl (by assumption) rfl ?_
            refine fs_iload_n (pc2 := 37) rfl rfl rfl rfl ?_
            try simp (disch := omega) only [nI_lit, pk_mul, nI_add, pk_sub, pk_rem4, nI_clamp, up2_o, up2_s, up2_i, cpV_o, cpV_i, e30, ec, e6, e13, e15]
            refine fs_iald (pc2 := 38) rfl rfl rfl (by assumption) (vp_in_nI (by omega) (by decide)) ?_
            try simp (disch := omega) only [nI_lit, pk_mul, nI_add, pk_sub, pk_rem4, nI_clamp, up2_o, up2_s, up2_i, cpV_o, cpV_i, e30, ec, e6, e13, e15]
            refine fs_if_le (pc2 := 41) rfl rfl rfl (fun h38 => ?_) (fun h38 => ?_)
            · have k38 : (H.2.1 c).2.2.1.length ≤ 0 := c_le (b := 0) h38 rfl rfl
              refine fs_iinc (pc2 := 55) rfl rfl rfl (Nat.le_of_ble_eq_true rfl) rfl ?_
              refine fs_goto rfl rfl ?_
              try simp (disch := omega) only [nI_lit, pk_mul, nI_add, pk_sub, pk_rem4, nI_clamp, up2_o, up2_s, up2_i, cpV_o, cpV_i]
              exact ih (i + 1) _ (by omega) (Or.inr ⟨_, rfl⟩) (go (by have := List.eq_nil_of_length_eq_zero (Nat.le_zero.mp k38); simp [ch_seg, this]))
            · have k38 : (H.2.1 c).2.2.1.length >  0 := c_nle (b := 0) h38 rfl rfl
              refine fs_aload_n (pc2 := 42) rfl rfl rfl rfl ?_
              refine fs_getr (pc2 := 45) rfl rfl rfl (by assumption) rfl ?_
              refine fs_iload_n (pc2 := 46) rfl rfl rfl rfl ?_
              try simp (disch := omega) only [nI_lit, pk_mul, nI_add, pk_sub, pk_rem4, nI_clamp, up2_o, up2_s, up2_i, cpV_o, cpV_i, e30, ec, e6, e13, e15]
              refine fs_iald (pc2 := 47) rfl rfl rfl (by assumption) (vp_in_nI (by omega) (by decide)) ?_
              try simp (disch := omega) only [nI_lit, pk_mul, nI_add, pk_sub, pk_rem4, nI_clamp, up2_o, up2_s, up2_i, cpV_o, cpV_i, e30, ec, e6, e13, e15]
              refine fs_if_le (pc2 := 50) rfl rfl rfl (fun h47 => ?_) (fun h47 => ?_)
              · have k47 : (H.2.1 c).1 9 ≤ 0 := c_le (b := 0) h47 rfl rfl
                refine fs_iinc (pc2 := 55) rfl rfl rfl (Nat.le_of_ble_eq_true rfl) rfl ?_
                refine fs_goto rfl rfl ?_
                try simp (disch := omega) only [nI_lit, pk_mul, nI_add, pk_sub, pk_rem4, nI_clamp, up2_o, up2_s, up2_i, cpV_o, cpV_i]
                exact ih (i + 1) _ (by omega) (Or.inr ⟨_, rfl⟩) (go (by simp [ch_seg]; intros; omega))
              · have k47 : (H.2.1 c).1 9 > 0 := c_nle (b := 0) h47 rfl rfl
                refine fs_iload_n (pc2 := 51) rfl rfl rfl rfl ?_
                try simp (disch := omega) only [nI_lit, pk_mul, nI_add, pk_sub, pk_rem4, nI_clamp, up2_o, up2_s, up2_i, cpV_o, cpV_i, e30, ec, e6, e13, e15]
                refine fs_iret rfl rfl True.intro ?_
                have ks : ch_seg (H.2.1 c) = true := by
                  simp [ch_seg, k29]
                  exact ⟨fun z => by rw [z] at k38; simp at k38, by omega⟩
                rw [show ho_next H = some i from first4_some (p := fun i => ch_seg (H.2.1 ((H.1 10 + i) % 4))) (by omega) (by rw [← hc]; exact ks) hn] at hP
                dsimp only at hP
                rw [← hc] at hP
                exact hP _ _ _ _ ⟨rfl, rfl, rfl, rfl⟩
      · refine fs_iload_n (pc2 := 3) rfl rfl rfl rfl ?_
        refine fs_iconst (pc2 := 4) rfl rfl rfl ?_
        try simp (disch := omega) only [nI_lit, pk_mul, nI_add, pk_sub, pk_rem4, nI_clamp, up2_o, up2_s, up2_i, cpV_o, cpV_i, e30, ec, e6, e13, e15]
        refine fs_icmp_gt (pc2 := 7) rfl rfl rfl (fun h4 => ?_) (fun h4 => ?_)
        · exact absurd (nI_le (a := i + 1) (b := 4) (by omega) (by decide)) h4
        · refine fs_iconst (pc2 := 8) rfl rfl rfl ?_
          refine fs_iload_n (pc2 := 9) rfl rfl rfl rfl ?_
          refine fs_imul (pc2 := 10) rfl rfl rfl ?_
          refine fs_aload_n (pc2 := 11) rfl rfl rfl rfl ?_
          refine fs_getr (pc2 := 14) rfl rfl rfl (by assumption) rfl ?_
          refine fs_iload_n (pc2 := 15) rfl rfl rfl rfl ?_
          try simp (disch := omega) only [nI_lit, pk_mul, nI_add, pk_sub, pk_rem4, nI_clamp, up2_o, up2_s, up2_i, cpV_o, cpV_i, e30, ec, e6, e13, e15]
          refine fs_iald (pc2 := 16) rfl rfl rfl (by assumption) (vp_in_nI (by omega) (by decide)) ?_
          refine fs_iload_n (pc2 := 17) rfl rfl rfl rfl ?_
          refine fs_iadd (pc2 := 18) rfl rfl rfl ?_
          refine fs_iconst (pc2 := 19) rfl rfl rfl ?_
          refine fs_irem (pc2 := 20) rfl rfl rfl (by decide) ?_
          refine fs_iadd (pc2 := 21) rfl rfl rfl ?_
          refine fs_istore_n (pc2 := 22) rfl rfl rfl (Nat.le_of_ble_eq_true rfl) ?_
          refine fs_aload_n (pc2 := 23) rfl rfl rfl rfl ?_
          refine fs_getr (pc2 := 26) rfl rfl rfl (by assumption) rfl ?_
          refine fs_iload_n (pc2 := 27) rfl rfl rfl rfl ?_
          try simp (disch := omega) only [nI_lit, pk_mul, nI_add, pk_sub, pk_rem4, nI_clamp, up2_o, up2_s, up2_i, cpV_o, cpV_i, e30, ec, e6, e13, e15]
          refine fs_iald (pc2 := 28) rfl rfl rfl (by assumption) (vp_in_nI (by omega) (by decide)) ?_
          refine fs_iconst (pc2 := 29) rfl rfl rfl ?_
          try simp (disch := omega) only [nI_lit, pk_mul, nI_add, pk_sub, pk_rem4, nI_clamp, up2_o, up2_s, up2_i, cpV_o, cpV_i, e30, ec, e6, e13, e15]
          refine fs_icmp_ne (pc2 := 32) rfl rfl rfl (fun h29 => ?_) (fun h29 => ?_)
          · have k29 : (H.2.1 c).1 1 ≠ 2 := c_ne (b := 2) h29 rfl rfl
            refine fs_iinc (pc2 := 55) rfl rfl rfl (Nat.le_of_ble_eq_true rfl) rfl ?_
            refine fs_goto rfl rfl ?_
            try simp (disch := omega) only [nI_lit, pk_mul, nI_add, pk_sub, pk_rem4, nI_clamp, up2_o, up2_s, up2_i, cpV_o, cpV_i]
            exact ih (i + 1) _ (by omega) (Or.inr ⟨_, rfl⟩) (go (by simp [ch_seg, k29]))
          · have k29 : (H.2.1 c).1 1 = 2 := c_eq (b := 2) h29 rfl rfl
            refine fs_aload_n (pc2 := 33) rfl rfl rfl rfl ?_
            refine fs_getr (pc2 := 36) rfl rfl rfl (by assumption) rfl ?_
            refine fs_iload_n (pc2 := 37) rfl rfl rfl rfl ?_
            try simp (disch := omega) only [nI_lit, pk_mul, nI_add, pk_sub, pk_rem4, nI_clamp, up2_o, up2_s, up2_i, cpV_o, cpV_i, e30, ec, e6, e13, e15]
            refine fs_iald (pc2 := 38) rfl rfl rfl (by assumption) (vp_in_nI (by omega) (by decide)) ?_
            try simp (disch := omega) only [nI_lit, pk_mul, nI_add, pk_sub, pk_rem4, nI_clamp, up2_o, up2_s, up2_i, cpV_o, cpV_i, e30, ec, e6, e13, e15]
            refine fs_if_le (pc2 := 41) rfl rfl rfl (fun h38 => ?_) (fun h38 => ?_)
            · have k38 : (H.2.1 c).2.2.1.length ≤ 0 := c_le (b := 0) h38 rfl rfl
              refine fs_iinc (pc2 := 55) rfl rfl rfl (Nat.le_of_ble_eq_true rfl) rfl ?_
              refine fs_goto rfl rfl ?_
              try simp (disch := omega) only [nI_lit, pk_mul, nI_add, pk_sub, pk_rem4, nI_clamp, up2_o, up2_s, up2_i, cpV_o, cpV_i]
              exact ih (i + 1) _ (by omega) (Or.inr ⟨_, rfl⟩) (go (by have := List.eq_nil_of_length_eq_zero (Nat.le_zero.mp k38); simp [ch_seg, this]))
            · have k38 : (H.2.1 c).2.2.1.length >  0 := c_nle (b := 0) h38 rfl rfl
              refine fs_aload_n (pc2 := 42) rfl rfl rfl rfl ?_
              refine fs_getr (pc2 := 45) rfl rfl rfl (by assumption) rfl ?_
              refine fs_iload_n (pc2 := 46) rfl rfl rfl rfl ?_
              try simp (disch := omega) only [nI_lit, pk_mul, nI_add, pk_sub, pk_rem4, nI_clamp, up2_o, up2_s, up2_i, cpV_o, cpV_i, e30, ec, e6, e13, e15]
              refine fs_iald (pc2 := 47) rfl rfl rfl (by assumption) (vp_in_nI (by omega) (by decide)) ?_
              try simp (disch := omega) only [nI_lit, pk_mul, nI_add, pk_sub, pk_rem4, nI_clamp, up2_o, up2_s, up2_i, cpV_o, cpV_i, e30, ec, e6, e13, e15]
              refine fs_if_le (pc2 := 50) rfl rfl rfl (fun h47 => ?_) (fun h47 => ?_)
              · have k47 : (H.2.1 c).1 9 ≤ 0 := c_le (b := 0) h47 rfl rfl
                refine fs_iinc (pc2 := 55) rfl rfl rfl (Nat.le_of_ble_eq_true rfl) rfl ?_
                refine fs_goto rfl rfl ?_
                try simp (disch := omega) only [nI_lit, pk_mul, nI_add, pk_sub, pk_rem4, nI_clamp, up2_o, up2_s, up2_i, cpV_o, cpV_i]
                exact ih (i + 1) _ (by omega) (Or.inr ⟨_, rfl⟩) (go (by simp [ch_seg]; intros; omega))
              · have k47 : (H.2.1 c).1 9 > 0 := c_nle (b := 0) h47 rfl rfl
                refine fs_iload_n (pc2 := 51) rfl rfl rfl rfl ?_
                try simp (disch := omega) only [nI_lit, pk_mul, nI_add, pk_sub, pk_rem4, nI_clamp, up2_o, up2_s, up2_i, cpV_o, cpV_i, e30, ec, e6, e13, e15]
                refine fs_iret rfl rfl True.intro ?_
                have ks : ch_seg (H.2.1 c) = true := by
                  simp [ch_seg, k29]
                  exact ⟨fun z => by rw [z] at k38; simp at k38, by omega⟩
                rw [show ho_next H = some i from first4_some (p := fun i => ch_seg (H.2.1 ((H.1 10 + i) % 4))) (by omega) (by rw [← hc]; exact ks) hn] at hP
                dsimp only at hP
                rw [← hc] at hP
                exact hP _ _ _ _ ⟨rfl, rfl, rfl, rfl⟩
  refine fs_iconst (pc2 := 1) rfl rfl rfl ?_
  refine fs_istore_n (pc2 := 2) rfl rfl rfl (Nat.le_of_ble_eq_true rfl) ?_
  try simp (disch := omega) only [nI_lit, pk_mul, nI_add, pk_sub, pk_rem4, nI_clamp, up2_o, up2_s, up2_i, cpV_o, cpV_i]
  exact loop 4 0 [] (by omega) (Or.inl rfl) (fun q hq => by omega)
set_option maxRecDepth 100000 in
set_option maxHeartbeats 4000000 in
theorem m_beginSegment (hm : isMo sh mb) (hM : Mo V mb T S (va_up HH h H)) (hh : h < 2) (hk : k < 4) (hS : SI H) (hg : ch_seg (H.2.1 k) = true) : fl_M cy z0 ext (d + 2) m_X7_beginSegment [.ref (z0 + mb), .int (nI h), .int (nI (4 * h + k))] sh V n (fun v sh' V' n' => v = none ∧ sh' = sh ∧ n' = n ∧ Mo V' mb T S (va_up HH h (ho_bseg H k)) ∧ KP mb V V') := by
  have m0 := hm.1
  have a10 : sh (mb + 10) = some (.inl (1, 8, none)) := hm.2 9 (1, 8) rfl
  have a12 : sh (mb + 12) = some (.inl (1, 8, none)) := hm.2 11 (1, 8) rfl
  have a13 : sh (mb + 13) = some (.inl (1, 8, none)) := hm.2 12 (1, 8) rfl
  have a15 : sh (mb + 15) = some (.inl (1, 8, none)) := hm.2 14 (1, 8) rfl
  have a16 : sh (mb + 16) = some (.inl (1, 16, none)) := hm.2 15 (1, 16) rfl
  have a17 : sh (mb + 17) = some (.inl (1, 1920, none)) := hm.2 16 (1, 1920) rfl
  have a18 : sh (mb + 18) = some (.inl (1, 8, none)) := hm.2 17 (1, 8) rfl
  have a30 : sh (mb + 30) = some (.inl (1, 2, none)) := hm.2 29 (1, 2) rfl
  have hC := (hM.host hh).2.2.2.2.2.2 k hk
  obtain ⟨t, ts, hts⟩ : ∃ t ts, (H.2.1 k).2.2.1 = t :: ts := by
    cases htx : (H.2.1 k).2.2.1 with
    | nil => simp [ch_seg, htx] at hg
    | cons t ts => exact ⟨t, ts, rfl⟩
  have hcr : 0 < (H.2.1 k).1 9 := by simp [ch_seg] at hg; omega
  have hgo := hS.1 k hk t ts hts
  have eb : ho_bseg H k = hoN (hoB (hoC (hoN H 7 0) k (ch_write (H.2.1 k) t ts)) (ch_unit (H.2.1 k) t)) 10 ((k + 1) % 4) := by unfold ho_bseg ch_write1 ch_unit1; rw [hts]
  rw [eb] at *
  obtain ⟨c, hc⟩ : ∃ c, c = 4 * h + k := ⟨_, rfl⟩
  rw [← hc] at hC ⊢
  obtain ⟨gone, hgone⟩ : ∃ g, g = (H.2.1 k).1 11 := ⟨_, rfl⟩
  obtain ⟨mps, hmps⟩ : ∃ g, g = (H.2.1 k).1 8 := ⟨_, rfl⟩
  obtain ⟨far, hfar⟩ : ∃ g, g = (H.2.1 k).1 6 := ⟨_, rfl⟩
  obtain ⟨cr, hcrd⟩ : ∃ g, g = (H.2.1 k).1 9 := ⟨_, rfl⟩
  obtain ⟨e18, l18⟩ := hC.num (11, 18) (by decide)
  obtain ⟨e12, l12⟩ := hC.num (8, 12) (by decide)
  obtain ⟨e10, l10⟩ := hC.num (6, 10) (by decide)
  obtain ⟨e13, l13⟩ := hC.num (9, 13) (by decide)
  dsimp only at e18 e12 e10 e13 l18 l12 l10 l13
  rw [← hgone] at e18 l18 hgo
  rw [← hmps] at e12 l12
  rw [← hfar] at e10 l10
  rw [← hcrd] at e13 l13 hcr
  have e15 := hC.2.2.2.1
  have l15 := hC.2.2.2.2.1
  obtain ⟨e16, t2, t122, ht, htb⟩ := hC.2.2.2.2.2.1 0 t (by rw [hts]; rfl)
  rw [hts] at e15 l15
  simp only [List.length_cons] at e15 l15
  simp only [Nat.add_zero] at e16 htb
  obtain ⟨bd, hbd⟩ : ∃ bd, bd = t.drop 2 := ⟨_, rfl⟩
  have lbd : t.length - 2 = bd.length := by rw [hbd]; simp
  have lt2 : t.length = bd.length + 2 := by omega
  rw [lbd] at e16 ht
  rw [← hbd] at ht htb
  have hby : ∀ j, j < t.length → t.getD j 0 < 256 := by
    intro j hj
    rw [ht]
    by_cases q : j < 2
    · rcases (by omega : j = 0 ∨ j = 1) with rfl | rfl
      · show bd.length % 256 < 256; omega
      · show bd.length / 256 < 256; omega
    · rw [getD_ar (by simp [two]; omega)]
      exact (htb.at (by simp [two]; omega)).2
  obtain ⟨m, hmm⟩ : ∃ m, m = min mps (t.length - gone) := ⟨_, rfl⟩
  have ew : ch_write (H.2.1 k) t ts = if gone + m < t.length then (va_up (va_up (H.2.1 k).1 9 (cr - 1)) 11 (gone + m), (H.2.1 k).2) else (va_up (va_up (H.2.1 k).1 9 (cr - 1)) 11 0, (H.2.1 k).2.1, ts, (H.2.1 k).2.2.2) := by unfold ch_write; rw [← hgone, ← hmps, ← hcrd, ← hmm]
  have eu : ch_unit (H.2.1 k) t = two m ++ two far ++ (t.drop gone).take m := by unfold ch_unit; rw [← hgone, ← hmps, ← hfar, ← hmm]; rfl
  have e4 : c % 4 = k := by omega
  have hc8 : c < 8 := by omega
  refine fs_body rfl rfl (fun Ret hP => ?_)
  have loop2 : ∀ (V5 : fl_V) (q6 : Int32), (∀ j i, i + j = 120 → (∀ (V' : fl_V), V' = cpV V5 (mb + 17) (120 * (2 * c)) 120 (fun j => V5 (mb + 17) (120 * (2 * c) + 120 + j)) → Ret none (fl_f cy z0 sh V') (z0 + n)) → fl_R cy z0 (ev_M cy ext (d + 1)) 7 0 0 7 none kc_X7_beginSegment Ret 179 [(0, .ref (z0 + mb)), (1, .int (nI h)), (2, .int (nI c)), (3, .int (nI (2 * c))), (4, .int (nI (bd.length + 2))), (5, .int (nI m)), (6, .int (nI i))] [] sh (cpV V5 (mb + 17) (120 * (2 * c)) i (fun j => V5 (mb + 17) (120 * (2 * c) + 120 + j))) n 0 0) := by
    intro V5 q6 j
    induction j with
    | zero =>
      intro i hi hR
      have hi2 : i = 120 := by omega
      subst hi2
      refine fs_iload (pc2 := 181) rfl rfl rfl rfl ?_
      refine fs_bipush (pc2 := 183) rfl rfl rfl ?_
      try simp (disch := omega) only [nI_lit, pk_mul, nI_add, pk_sub, pk_rem4, nI_clamp, up2_o, up2_s, up2_i, cpV_o, cpV_i]
      refine fs_icmp_ge (pc2 := 186) rfl rfl rfl (fun h183 => ?_) (fun h183 => ?_)
      · try simp (disch := omega) only [nI_lit, pk_mul, nI_add, pk_sub, pk_rem4, nI_clamp, up2_o, up2_s, up2_i, cpV_o, cpV_i]
        refine fs_ret rfl rfl ?_
        exact hR _ rfl
      · exact absurd h183 (by decide)
    | succ j ih =>
      intro i hi hR
      refine fs_iload (pc2 := 181) rfl rfl rfl rfl ?_
      refine fs_bipush (pc2 := 183) rfl rfl rfl ?_
      try simp (disch := omega) only [nI_lit, pk_mul, nI_add, pk_sub, pk_rem4, nI_clamp, up2_o, up2_s, up2_i, cpV_o, cpV_i]
      refine fs_icmp_ge (pc2 := 186) rfl rfl rfl (fun h183 => ?_) (fun h183 => ?_)
      · exact absurd (nI_lt (a := i) (b := 120) (by omega) (by decide)) h183
      · refine fs_aload_n (pc2 := 187) rfl rfl rfl rfl ?_
        refine fs_getr (pc2 := 190) rfl rfl rfl (by assumption) rfl ?_
        refine fs_bipush (pc2 := 192) rfl rfl rfl ?_
        refine fs_iload_n (pc2 := 193) rfl rfl rfl rfl ?_
        refine fs_imul (pc2 := 194) rfl rfl rfl ?_
        refine fs_iload (pc2 := 196) rfl rfl rfl rfl ?_
        refine fs_iadd (pc2 := 197) rfl rfl rfl ?_
        refine fs_aload_n (pc2 := 198) rfl rfl rfl rfl ?_
        refine fs_getr (pc2 := 201) rfl rfl rfl (by assumption) rfl ?_
        refine fs_bipush (pc2 := 203) rfl rfl rfl ?_
        refine fs_iload_n (pc2 := 204) rfl rfl rfl rfl ?_
        refine fs_imul (pc2 := 205) rfl rfl rfl ?_
        refine fs_bipush (pc2 := 207) rfl rfl rfl ?_
        refine fs_iadd (pc2 := 208) rfl rfl rfl ?_
        refine fs_iload (pc2 := 210) rfl rfl rfl rfl ?_
        refine fs_iadd (pc2 := 211) rfl rfl rfl ?_
        try simp (disch := omega) only [nI_lit, pk_mul, nI_add, pk_sub, pk_rem4, nI_clamp, up2_o, up2_s, up2_i, cpV_o, cpV_i]
        refine fs_iald (pc2 := 212) rfl rfl rfl (by assumption) (vp_in_nI (by omega) (by decide)) ?_
        try simp (disch := omega) only [nI_lit, pk_mul, nI_add, pk_sub, pk_rem4, nI_clamp, up2_o, up2_s, up2_i, cpV_o, cpV_i]
        refine fs_iast (pc2 := 213) rfl rfl rfl (by assumption) (vp_in_nI (by omega) (by decide)) ?_
        refine fs_iinc (pc2 := 216) rfl rfl rfl (Nat.le_of_ble_eq_true rfl) rfl ?_
        refine fs_goto rfl rfl ?_
        try simp (disch := omega) only [nI_lit, pk_mul, nI_add, pk_sub, pk_rem4, nI_clamp, up2_o, up2_s, up2_i, cpV_o, cpV_i]
        rw [cpV_1 rfl]
        exact ih (i + 1) (by omega) hR
  have loop : ∀ j i (V1 : fl_V), i + j = m → Mo V1 mb T S (va_up HH h (hoB (hoN H 7 0) (two m ++ two far ++ (t.drop gone).take i))) → KP mb V V1 → FM mb (16 + h) V V1 → fl_R cy z0 (ev_M cy ext (d + 1)) 7 0 0 7 none kc_X7_beginSegment Ret 68 [(0, .ref (z0 + mb)), (1, .int (nI h)), (2, .int (nI c)), (3, .int (nI (2 * c))), (4, .int (nI (bd.length + 2))), (5, .int (nI m)), (6, .int (nI i))] [] sh V1 n 0 0 := by
    intro j
    induction j with
    | zero =>
      intro i V1 hi hM1 kp1 hF1
      have hi2 : i = m := by omega
      subst hi2
      have f18 : V1 (mb + 18) c = nI gone := by rw [hF1 18 c (by simp [own] <;> omega)]; exact e18
      have f13 : V1 (mb + 13) c = nI cr := by rw [hF1 13 c (by simp [own] <;> omega)]; exact e13
      have f15 : V1 (mb + 15) c = nI (ts.length + 1) := by rw [hF1 15 c (by simp [own] <;> omega)]; exact e15
      have hC1 := (hM1.host hh).2.2.2.2.2.2 k hk
      rw [← hc] at hC1
      obtain ⟨n1, n2, n3, n4⟩ := id (hM1.host hh).1
      refine fs_iload (pc2 := 70) rfl rfl rfl rfl ?_
      refine fs_iload (pc2 := 72) rfl rfl rfl rfl ?_
      try simp (disch := omega) only [nI_lit, pk_mul, nI_add, pk_sub, pk_rem4, nI_clamp, up2_o, up2_s, up2_i, cpV_o, cpV_i, f18, f13, e4]
      refine fs_icmp_ge (pc2 := 75) rfl rfl rfl (fun h72 => ?_) (fun h72 => ?_)
      · refine fs_aload_n (pc2 := 101) rfl rfl rfl rfl ?_
        refine fs_getr (pc2 := 104) rfl rfl rfl (by assumption) rfl ?_
        refine fs_iload_n (pc2 := 105) rfl rfl rfl rfl ?_
        refine fs_aload_n (pc2 := 106) rfl rfl rfl rfl ?_
        refine fs_getr (pc2 := 109) rfl rfl rfl (by assumption) rfl ?_
        refine fs_iload_n (pc2 := 110) rfl rfl rfl rfl ?_
        try simp (disch := omega) only [nI_lit, pk_mul, nI_add, pk_sub, pk_rem4, nI_clamp, up2_o, up2_s, up2_i, cpV_o, cpV_i, f18, f13, e4]
        refine fs_iald (pc2 := 111) rfl rfl rfl (by assumption) (vp_in_nI (by omega) (by decide)) ?_
        refine fs_iload (pc2 := 113) rfl rfl rfl rfl ?_
        refine fs_iadd (pc2 := 114) rfl rfl rfl ?_
        try simp (disch := omega) only [nI_lit, pk_mul, nI_add, pk_sub, pk_rem4, nI_clamp, up2_o, up2_s, up2_i, cpV_o, cpV_i, f18, f13, e4]
        refine fs_iast (pc2 := 115) rfl rfl rfl (by assumption) (vp_in_nI (by omega) (by decide)) ?_
        refine fs_aload_n (pc2 := 116) rfl rfl rfl rfl ?_
        refine fs_getr (pc2 := 119) rfl rfl rfl (by assumption) rfl ?_
        refine fs_iload_n (pc2 := 120) rfl rfl rfl rfl ?_
        refine fs_dup2 (pc2 := 121) rfl rfl rfl ?_
        try simp (disch := omega) only [nI_lit, pk_mul, nI_add, pk_sub, pk_rem4, nI_clamp, up2_o, up2_s, up2_i, cpV_o, cpV_i, f18, f13, e4]
        refine fs_iald (pc2 := 122) rfl rfl rfl (by assumption) (vp_in_nI (by omega) (by decide)) ?_
        refine fs_iconst (pc2 := 123) rfl rfl rfl ?_
        refine fs_isub (pc2 := 124) rfl rfl rfl ?_
        try simp (disch := omega) only [nI_lit, pk_mul, nI_add, pk_sub, pk_rem4, nI_clamp, up2_o, up2_s, up2_i, cpV_o, cpV_i, f18, f13, e4]
        refine fs_iast (pc2 := 125) rfl rfl rfl (by assumption) (vp_in_nI (by omega) (by decide)) ?_
        refine fs_aload_n (pc2 := 126) rfl rfl rfl rfl ?_
        refine fs_getr (pc2 := 129) rfl rfl rfl (by assumption) rfl ?_
        refine fs_iload_n (pc2 := 130) rfl rfl rfl rfl ?_
        refine fs_iload_n (pc2 := 131) rfl rfl rfl rfl ?_
        refine fs_iconst (pc2 := 132) rfl rfl rfl ?_
        refine fs_irem (pc2 := 133) rfl rfl rfl (by decide) ?_
        try simp (disch := omega) only [nI_lit, pk_mul, nI_add, pk_sub, pk_rem4, nI_clamp, up2_o, up2_s, up2_i, cpV_o, cpV_i, f18, f13, e4]
        refine fs_iast (pc2 := 134) rfl rfl rfl (by assumption) (vp_in_nI (by omega) (by decide)) ?_
        refine fs_aload_n (pc2 := 135) rfl rfl rfl rfl ?_
        refine fs_getr (pc2 := 138) rfl rfl rfl (by assumption) rfl ?_
        refine fs_iload_n (pc2 := 139) rfl rfl rfl rfl ?_
        try simp (disch := omega) only [nI_lit, pk_mul, nI_add, pk_sub, pk_rem4, nI_clamp, up2_o, up2_s, up2_i, cpV_o, cpV_i, f18, f13, e4]
        refine fs_iald (pc2 := 140) rfl rfl rfl (by assumption) (vp_in_nI (by omega) (by decide)) ?_
        refine fs_iload (pc2 := 142) rfl rfl rfl rfl ?_
        try simp (disch := omega) only [nI_lit, pk_mul, nI_add, pk_sub, pk_rem4, nI_clamp, up2_o, up2_s, up2_i, cpV_o, cpV_i, f18, f13, e4]
        refine fs_icmp_ne (pc2 := 145) rfl rfl rfl (fun h142 => ?_) (fun h142 => ?_)
        · have k142 : gone + i ≠ bd.length + 2 := c_ne h142 rfl rfl
          have k142b : gone + i < t.length := by omega
          rw [if_pos k142b] at ew
          first | simp (disch := omega) only [nI_lit, pk_mul, nI_add, pk_sub, pk_rem4, nI_clamp, up2_o, up2_s, up2_i, cpV_o, cpV_i, f18, f13, e4, f15] | simp (disch := omega) only [nI_lit, pk_mul, nI_add, pk_sub, pk_rem4, nI_clamp, up2_o, up2_s, up2_i, cpV_o, cpV_i, f18, f13, e4] | skip
          refine fs_ret rfl rfl ?_
          have hM2 := hM1.pC (y := (va_up (va_up (H.2.1 k).1 11 (gone + i)) 9 (cr - 1), (H.2.1 k).2)) hh hk (by rw [← hc]; exact ((FM.refl.up (j := 18) (i := c) (v := nI (gone + i)) (by simp [own])).up (j := 13) (i := c) (v := nI (cr - 1)) (by simp [own]))) (by rw [← hc]; exact (hC1.pI (11, 18) (by decide) (by omega)).pI (9, 13) (by decide) (by omega))
          have hM3 := hM2.pN (N := va_up (va_up H.1 7 0) 10 ((k + 1) % 4)) hh (FM.refl.up (j := 30) (i := h) (v := nI k) (by simp [own])) ⟨by rw [up2_o (by omega), up2_o (by omega), up2_o (by omega)]; exact n1, n2, ⟨k, hk, up2_s, by rw [va_up_self]⟩, by simp (disch := omega) only [up2_o]; exact n4⟩ (by simp [va_up])
          refine hP _ _ _ _ ⟨rfl, rfl, rfl, ?_, kp1.trans (((KP.refl.up (by decide)).up (by decide)).up (by decide))⟩
          rw [ew, eu, va_up_swap (by decide)]
          exact hM3
        · have k142 : gone + i = bd.length + 2 := c_eq h142 rfl rfl
          rw [if_neg (by omega)] at ew
          refine fs_aload_n (pc2 := 146) rfl rfl rfl rfl ?_
          refine fs_getr (pc2 := 149) rfl rfl rfl (by assumption) rfl ?_
          refine fs_iload_n (pc2 := 150) rfl rfl rfl rfl ?_
          refine fs_iconst (pc2 := 151) rfl rfl rfl ?_
          first | simp (disch := omega) only [nI_lit, pk_mul, nI_add, pk_sub, pk_rem4, nI_clamp, up2_o, up2_s, up2_i, cpV_o, cpV_i, f18, f13, e4, f15] | simp (disch := omega) only [nI_lit, pk_mul, nI_add, pk_sub, pk_rem4, nI_clamp, up2_o, up2_s, up2_i, cpV_o, cpV_i, f18, f13, e4] | skip
          refine fs_iast (pc2 := 152) rfl rfl rfl (by assumption) (vp_in_nI (by omega) (by decide)) ?_
          refine fs_aload_n (pc2 := 153) rfl rfl rfl rfl ?_
          refine fs_getr (pc2 := 156) rfl rfl rfl (by assumption) rfl ?_
          refine fs_iload_n (pc2 := 157) rfl rfl rfl rfl ?_
          refine fs_dup2 (pc2 := 158) rfl rfl rfl ?_
          first | simp (disch := omega) only [nI_lit, pk_mul, nI_add, pk_sub, pk_rem4, nI_clamp, up2_o, up2_s, up2_i, cpV_o, cpV_i, f18, f13, e4, f15] | simp (disch := omega) only [nI_lit, pk_mul, nI_add, pk_sub, pk_rem4, nI_clamp, up2_o, up2_s, up2_i, cpV_o, cpV_i, f18, f13, e4] | skip
          refine fs_iald (pc2 := 159) rfl rfl rfl (by assumption) (vp_in_nI (by omega) (by decide)) ?_
          refine fs_iconst (pc2 := 160) rfl rfl rfl ?_
          refine fs_isub (pc2 := 161) rfl rfl rfl ?_
          first | simp (disch := omega) only [nI_lit, pk_mul, nI_add, pk_sub, pk_rem4, nI_clamp, up2_o, up2_s, up2_i, cpV_o, cpV_i, f18, f13, e4, f15] | simp (disch := omega) only [nI_lit, pk_mul, nI_add, pk_sub, pk_rem4, nI_clamp, up2_o, up2_s, up2_i, cpV_o, cpV_i, f18, f13, e4] | skip
          refine fs_iast (pc2 := 162) rfl rfl rfl (by assumption) (vp_in_nI (by omega) (by decide)) ?_
          refine fs_aload_n (pc2 := 163) rfl rfl rfl rfl ?_
          refine fs_getr (pc2 := 166) rfl rfl rfl (by assumption) rfl ?_
          refine fs_iload_n (pc2 := 167) rfl rfl rfl rfl ?_
          refine fs_aload_n (pc2 := 168) rfl rfl rfl rfl ?_
          refine fs_getr (pc2 := 171) rfl rfl rfl (by assumption) rfl ?_
          refine fs_iload_n (pc2 := 172) rfl rfl rfl rfl ?_
          refine fs_iconst (pc2 := 173) rfl rfl rfl ?_
          refine fs_iadd (pc2 := 174) rfl rfl rfl ?_
          first | simp (disch := omega) only [nI_lit, pk_mul, nI_add, pk_sub, pk_rem4, nI_clamp, up2_o, up2_s, up2_i, cpV_o, cpV_i, f18, f13, e4, f15] | simp (disch := omega) only [nI_lit, pk_mul, nI_add, pk_sub, pk_rem4, nI_clamp, up2_o, up2_s, up2_i, cpV_o, cpV_i, f18, f13, e4] | skip
          refine fs_iald (pc2 := 175) rfl rfl rfl (by assumption) (vp_in_nI (by omega) (by decide)) ?_
          first | simp (disch := omega) only [nI_lit, pk_mul, nI_add, pk_sub, pk_rem4, nI_clamp, up2_o, up2_s, up2_i, cpV_o, cpV_i, f18, f13, e4, f15] | simp (disch := omega) only [nI_lit, pk_mul, nI_add, pk_sub, pk_rem4, nI_clamp, up2_o, up2_s, up2_i, cpV_o, cpV_i, f18, f13, e4] | skip
          refine fs_iast (pc2 := 176) rfl rfl rfl (by assumption) (vp_in_nI (by omega) (by decide)) ?_
          refine fs_iconst (pc2 := 177) rfl rfl rfl ?_
          refine fs_istore (pc2 := 179) rfl rfl rfl (Nat.le_of_ble_eq_true rfl) ?_
          try simp (disch := omega) only [nI_lit, pk_mul, nI_add, pk_sub, pk_rem4, nI_clamp, up2_o, up2_s, up2_i, cpV_o, cpV_i, f15]
          have l0 := loop2 (up2 (up2 (up2 (up2 (up2 (up2 V1 (mb + 18) c (nI (gone + i))) (mb + 13) c (nI (cr - 1))) (mb + 30) h (nI k)) (mb + 18) c (nI 0)) (mb + 15) c (nI ts.length)) (mb + 16) (2 * c) (V1 (mb + 16) (2 * c + 1))) 0 120 0 (by omega) ?_
          · rw [cpV_0] at l0
            exact l0
          intro V' hV'
          subst hV'
          have hM2 := hM1.pC (y := (va_up (va_up (H.2.1 k).1 11 (gone + i)) 9 (cr - 1), (H.2.1 k).2)) hh hk (by rw [← hc]; exact ((FM.refl.up (j := 18) (i := c) (v := nI (gone + i)) (by simp [own])).up (j := 13) (i := c) (v := nI (cr - 1)) (by simp [own]))) (by rw [← hc]; exact (hC1.pI (11, 18) (by decide) (by omega)).pI (9, 13) (by decide) (by omega))
          have hM3 := hM2.pN (N := va_up (va_up H.1 7 0) 10 ((k + 1) % 4)) hh (FM.refl.up (j := 30) (i := h) (v := nI k) (by simp [own])) ⟨by rw [up2_o (by omega), up2_o (by omega), up2_o (by omega)]; exact n1, n2, ⟨k, hk, up2_s, by rw [va_up_self]⟩, by simp (disch := omega) only [up2_o]; exact n4⟩ (by simp [va_up])
          have hC3 := (hM3.host hh).2.2.2.2.2.2 k hk
          rw [← hc] at hC3
          simp only [hoC, hoN, hoB, va_up_self] at hC3
          have hC4 := hC3.pI (11, 18) (v := 0) (by decide) (by decide)
          have hC5 := hC4.shiftT (v := V1 (mb + 16) (2 * c + 1)) (f := fun j => (up2 (up2 (up2 (up2 (up2 (up2 V1 (mb + 18) c (nI (gone + i))) (mb + 13) c (nI (cr - 1))) (mb + 30) h (nI k)) (mb + 18) c (nI 0)) (mb + 15) c (nI ts.length)) (mb + 16) (2 * c) (V1 (mb + 16) (2 * c + 1))) (mb + 17) (120 * (2 * c) + 120 + j)) hts (by simp (disch := omega) only [up2_o]) (fun j => by simp (disch := omega) only [up2_o])
          have hM4 := hM3.pC hh hk (by rw [← hc]; exact (((FM.refl.up (j := 18) (i := c) (v := nI 0) (by simp [own])).up (j := 15) (i := c) (v := nI ts.length) (by simp [own])).up (j := 16) (i := 2 * c) (v := V1 (mb + 16) (2 * c + 1)) (by simp [own])).cp (j := 17) (b := 120 * (2 * c)) (i := 120) (f := (fun j => (up2 (up2 (up2 (up2 (up2 (up2 V1 (mb + 18) c (nI (gone + i))) (mb + 13) c (nI (cr - 1))) (mb + 30) h (nI k)) (mb + 18) c (nI 0)) (mb + 15) c (nI ts.length)) (mb + 16) (2 * c) (V1 (mb + 16) (2 * c + 1))) (mb + 17) (120 * (2 * c) + 120 + j))) (fun x a1 a2 => by simp [own] <;> omega)) (by rw [← hc]; exact hC5)
          refine hP _ _ _ _ ⟨rfl, rfl, rfl, ?_, kp1.trans (((((((KP.refl.up (by decide)).up (by decide)).up (by decide)).up (by decide)).up (by decide)).up (by decide)).cp (by decide))⟩
          rw [ew, eu]
          have e9 : va_up (va_up (va_up (H.2.1 k).1 11 (gone + i)) 9 (cr - 1)) 11 0 = va_up (va_up (H.2.1 k).1 9 (cr - 1)) 11 0 := by rw [va_up_swap (show (11 : Nat) ≠ 9 by decide), va_up2]
          rw [← e9]
          simp only [hoC, hoN, hoB, va_up2] at hM4 ⊢
          exact hM4
      · have := c_lt (a := i) (b := i) h72 rfl rfl
        omega
    | succ j ih =>
      intro i V1 hi hM1 kp1 hF1
      have f18 : V1 (mb + 18) c = nI gone := by rw [hF1 18 c (by simp [own] <;> omega)]; exact e18
      have f16 : V1 (mb + 16) (2 * c) = nI bd.length := by rw [hF1 16 _ (by simp [own] <;> omega)]; exact e16
      have f17 : ML (V1 (mb + 17)) (120 * (2 * c)) bd := htb.kept (fun j hj => hF1 17 _ (by simp [own] <;> omega))
      have et := take_one (x := t.drop gone) (i := i) (by simp; omega)
      have eg : (t.drop gone).getD i 0 = t.getD (gone + i) 0 := by simp [List.getD_eq_getElem?_getD]
      rw [eg] at et
      have l256 := hby (gone + i) (by omega)
      refine fs_iload (pc2 := 70) rfl rfl rfl rfl ?_
      refine fs_iload (pc2 := 72) rfl rfl rfl rfl ?_
      try simp (disch := omega) only [nI_lit, pk_mul, nI_add, pk_sub, pk_rem4, nI_clamp, up2_o, up2_s, up2_i, cpV_o, cpV_i, f18]
      refine fs_icmp_ge (pc2 := 75) rfl rfl rfl (fun h72 => ?_) (fun h72 => ?_)
      · have := c_nlt (a := i) (b := m) h72 rfl rfl
        omega
      · refine fs_aload_n (pc2 := 76) rfl rfl rfl rfl ?_
        refine fs_iload_n (pc2 := 77) rfl rfl rfl rfl ?_
        refine fs_aload_n (pc2 := 78) rfl rfl rfl rfl ?_
        refine fs_iload_n (pc2 := 79) rfl rfl rfl rfl ?_
        refine fs_aload_n (pc2 := 80) rfl rfl rfl rfl ?_
        refine fs_getr (pc2 := 83) rfl rfl rfl (by assumption) rfl ?_
        refine fs_iload_n (pc2 := 84) rfl rfl rfl rfl ?_
        try simp (disch := omega) only [nI_lit, pk_mul, nI_add, pk_sub, pk_rem4, nI_clamp, up2_o, up2_s, up2_i, cpV_o, cpV_i, f18]
        refine fs_iald (pc2 := 85) rfl rfl rfl (by assumption) (vp_in_nI (by omega) (by decide)) ?_
        refine fs_iload (pc2 := 87) rfl rfl rfl rfl ?_
        refine fs_iadd (pc2 := 88) rfl rfl rfl ?_
        try simp (disch := omega) only [nI_lit, pk_mul, nI_add, pk_sub, pk_rem4, nI_clamp, up2_o, up2_s, up2_i, cpV_o, cpV_i, f18]
        refine fs_callv (pc2 := 91) rfl rfl rfl rfl ⟨rfl, rfl⟩ (Nat.le_of_ble_eq_true rfl) (Nat.le_of_ble_eq_true rfl) (Nat.le_of_ble_eq_true rfl) (fs_rcv rfl (by assumption)) (m_textByte hm (by omega) f16 (by omega) f17 (j := gone + i) (by omega)) (fun v9 sh9 V9 n9 hp9 => ?_)
        obtain ⟨ea9, eb9, ec9, hv9⟩ := hp9
        cases ea9
        obtain rfl := eb9.symm
        obtain rfl := ec9.symm
        cases hv9
        rw [← ht]
        try simp (disch := omega) only [nI_lit, pk_mul, nI_add, pk_sub, pk_rem4, nI_clamp, up2_o, up2_s, up2_i, cpV_o, cpV_i, f18]
        refine fs_callv (pc2 := 94) rfl rfl rfl rfl ⟨rfl, rfl⟩ (Nat.le_of_ble_eq_true rfl) (Nat.le_of_ble_eq_true rfl) (Nat.le_of_ble_eq_true rfl) (fs_rcv rfl (by assumption)) (m_unitByte hm hM1 hh l256 (by simp [two]; omega)) (fun v9 sh9 V9 n9 hp9 => ?_)
        obtain ⟨ea9, eb9, ec9, hM2, hF2, kp2⟩ := hp9
        cases ea9
        obtain rfl := eb9.symm
        obtain rfl := ec9.symm
        refine fs_iinc (pc2 := 97) rfl rfl rfl (Nat.le_of_ble_eq_true rfl) rfl ?_
        refine fs_goto rfl rfl ?_
        try simp (disch := omega) only [nI_lit, pk_mul, nI_add, pk_sub, pk_rem4, nI_clamp, up2_o, up2_s, up2_i, cpV_o, cpV_i]
        refine ih (i + 1) _ (by omega) (by rw [← et]; simpa [List.append_assoc] using hM2) (kp1.trans kp2) (hF1.trans hF2)
  have j50 : fl_R cy z0 (ev_M cy ext (d + 1)) 7 0 0 7 none kc_X7_beginSegment Ret 50 [(0, .ref (z0 + mb)), (1, .int (nI h)), (2, .int (nI c)), (3, .int (nI (2 * c))), (4, .int (nI (bd.length + 2)))] [.int (nI m)] sh V n 0 0 := by
    refine fs_istore (pc2 := 52) rfl rfl rfl (Nat.le_of_ble_eq_true rfl) ?_
    refine fs_aload_n (pc2 := 53) rfl rfl rfl rfl ?_
    refine fs_iload_n (pc2 := 54) rfl rfl rfl rfl ?_
    refine fs_iload (pc2 := 56) rfl rfl rfl rfl ?_
    refine fs_aload_n (pc2 := 57) rfl rfl rfl rfl ?_
    refine fs_getr (pc2 := 60) rfl rfl rfl (by assumption) rfl ?_
    refine fs_iload_n (pc2 := 61) rfl rfl rfl rfl ?_
    first | simp (disch := omega) only [nI_lit, pk_mul, nI_add, pk_sub, pk_rem4, nI_clamp, up2_o, up2_s, up2_i, cpV_o, cpV_i, e10] | simp (disch := omega) only [nI_lit, pk_mul, nI_add, pk_sub, pk_rem4, nI_clamp, up2_o, up2_s, up2_i, cpV_o, cpV_i] | skip
    refine fs_iald (pc2 := 62) rfl rfl rfl (by assumption) (vp_in_nI (by omega) (by decide)) ?_
    first | simp (disch := omega) only [nI_lit, pk_mul, nI_add, pk_sub, pk_rem4, nI_clamp, up2_o, up2_s, up2_i, cpV_o, cpV_i, e10] | simp (disch := omega) only [nI_lit, pk_mul, nI_add, pk_sub, pk_rem4, nI_clamp, up2_o, up2_s, up2_i, cpV_o, cpV_i] | skip
    refine fs_callv (pc2 := 65) rfl rfl rfl rfl ⟨rfl, rfl⟩ (Nat.le_of_ble_eq_true rfl) (Nat.le_of_ble_eq_true rfl) (Nat.le_of_ble_eq_true rfl) (fs_rcv rfl (by assumption)) (m_unitHead hm hM hh (l := m) (num := far) (by omega) l10) (fun v9 sh9 V9 n9 hp9 => ?_)
    obtain ⟨ea9, eb9, ec9, hM2, hF2, kp2⟩ := hp9
    cases ea9
    obtain rfl := eb9.symm
    obtain rfl := ec9.symm
    refine fs_iconst (pc2 := 66) rfl rfl rfl ?_
    refine fs_istore (pc2 := 68) rfl rfl rfl (Nat.le_of_ble_eq_true rfl) ?_
    try simp (disch := omega) only [nI_lit, pk_mul, nI_add, pk_sub, pk_rem4, nI_clamp, up2_o, up2_s, up2_i, cpV_o, cpV_i]
    exact loop m 0 _ (by omega) (by simpa using hM2) kp2 hF2
  refine fs_iconst (pc2 := 1) rfl rfl rfl ?_
  refine fs_iload_n (pc2 := 2) rfl rfl rfl rfl ?_
  refine fs_imul (pc2 := 3) rfl rfl rfl ?_
  refine fs_istore_n (pc2 := 4) rfl rfl rfl (Nat.le_of_ble_eq_true rfl) ?_
  refine fs_aload_n (pc2 := 5) rfl rfl rfl rfl ?_
  refine fs_getr (pc2 := 8) rfl rfl rfl (by assumption) rfl ?_
  refine fs_iload_n (pc2 := 9) rfl rfl rfl rfl ?_
  try simp (disch := omega) only [nI_lit, pk_mul, nI_add, pk_sub, pk_rem4, nI_clamp, up2_o, up2_s, up2_i, cpV_o, cpV_i, e16, e18, e12]
  refine fs_iald (pc2 := 10) rfl rfl rfl (by assumption) (vp_in_nI (by omega) (by decide)) ?_
  refine fs_iconst (pc2 := 11) rfl rfl rfl ?_
  refine fs_iadd (pc2 := 12) rfl rfl rfl ?_
  refine fs_istore (pc2 := 14) rfl rfl rfl (Nat.le_of_ble_eq_true rfl) ?_
  refine fs_iload (pc2 := 16) rfl rfl rfl rfl ?_
  refine fs_aload_n (pc2 := 17) rfl rfl rfl rfl ?_
  refine fs_getr (pc2 := 20) rfl rfl rfl (by assumption) rfl ?_
  refine fs_iload_n (pc2 := 21) rfl rfl rfl rfl ?_
  try simp (disch := omega) only [nI_lit, pk_mul, nI_add, pk_sub, pk_rem4, nI_clamp, up2_o, up2_s, up2_i, cpV_o, cpV_i, e16, e18, e12]
  refine fs_iald (pc2 := 22) rfl rfl rfl (by assumption) (vp_in_nI (by omega) (by decide)) ?_
  refine fs_isub (pc2 := 23) rfl rfl rfl ?_
  refine fs_aload_n (pc2 := 24) rfl rfl rfl rfl ?_
  refine fs_getr (pc2 := 27) rfl rfl rfl (by assumption) rfl ?_
  refine fs_iload_n (pc2 := 28) rfl rfl rfl rfl ?_
  try simp (disch := omega) only [nI_lit, pk_mul, nI_add, pk_sub, pk_rem4, nI_clamp, up2_o, up2_s, up2_i, cpV_o, cpV_i, e16, e18, e12]
  refine fs_iald (pc2 := 29) rfl rfl rfl (by assumption) (vp_in_nI (by omega) (by decide)) ?_
  try simp (disch := omega) only [nI_lit, pk_mul, nI_add, pk_sub, pk_rem4, nI_clamp, up2_o, up2_s, up2_i, cpV_o, cpV_i, e16, e18, e12]
  refine fs_icmp_ge (pc2 := 32) rfl rfl rfl (fun h29 => ?_) (fun h29 => ?_)
  · have k29 : mps ≤ bd.length + 2 - gone := c_nlt h29 rfl rfl
    refine fs_aload_n (pc2 := 45) rfl rfl rfl rfl ?_
    refine fs_getr (pc2 := 48) rfl rfl rfl (by assumption) rfl ?_
    refine fs_iload_n (pc2 := 49) rfl rfl rfl rfl ?_
    try simp (disch := omega) only [nI_lit, pk_mul, nI_add, pk_sub, pk_rem4, nI_clamp, up2_o, up2_s, up2_i, cpV_o, cpV_i, e16, e18, e12]
    refine fs_iald (pc2 := 50) rfl rfl rfl (by assumption) (vp_in_nI (by omega) (by decide)) ?_
    try simp (disch := omega) only [nI_lit, pk_mul, nI_add, pk_sub, pk_rem4, nI_clamp, up2_o, up2_s, up2_i, cpV_o, cpV_i, e12, e18]
    rw [show mps = m by omega]
    exact j50
  · have k29 : bd.length + 2 - gone < mps := c_lt h29 rfl rfl
    refine fs_iload (pc2 := 34) rfl rfl rfl rfl ?_
    refine fs_aload_n (pc2 := 35) rfl rfl rfl rfl ?_
    refine fs_getr (pc2 := 38) rfl rfl rfl (by assumption) rfl ?_
    refine fs_iload_n (pc2 := 39) rfl rfl rfl rfl ?_
    try simp (disch := omega) only [nI_lit, pk_mul, nI_add, pk_sub, pk_rem4, nI_clamp, up2_o, up2_s, up2_i, cpV_o, cpV_i, e16, e18, e12]
    refine fs_iald (pc2 := 40) rfl rfl rfl (by assumption) (vp_in_nI (by omega) (by decide)) ?_
    refine fs_isub (pc2 := 41) rfl rfl rfl ?_
    refine fs_goto rfl rfl ?_
    try simp (disch := omega) only [nI_lit, pk_mul, nI_add, pk_sub, pk_rem4, nI_clamp, up2_o, up2_s, up2_i, cpV_o, cpV_i, e12, e18]
    rw [show bd.length + 2 - gone = m by omega]
    exact j50
end MSEND
