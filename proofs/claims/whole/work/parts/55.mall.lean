theorem ho_unit_lt {H : Ho} (hS : SI H) (hu : (ho_unit H).1 = true) : (ho_unit H).2.1 7 < (ho_unit H).2.2.2.2.2.2.1.length := by
  unfold ho_unit at hu ⊢
  by_cases q : H.1 7 < H.2.2.2.2.2.1.length
  · rw [if_pos q]; exact q
  · rw [if_neg q] at hu ⊢
    cases hQ : H.2.2.2.2.1 with
    | cons x qs =>
      dsimp only
      show va_up H.1 7 0 7 < (two x.length ++ two 5 ++ x).length
      rw [va_up_self]
      simp [two]
    | nil =>
      rw [hQ] at hu
      dsimp only at hu ⊢
      cases hn : ho_next H with
      | none => rw [hn] at hu; cases hu
      | some i =>
        dsimp only
        have := (first4_lt hn).2
        show va_up (va_up H.1 7 0) 10 (((H.1 10 + i) % 4 + 1) % 4) 7 < (ch_unit1 (H.2.1 ((H.1 10 + i) % 4))).length
        rw [va_up_ne _ _ (by decide), va_up_self]
        unfold ch_unit1
        split
        · simp [ch_unit]
        · next e => simp [ch_seg, e] at this
section MALL
variable {cy : Nat → ClassId} {z0 : Nat} {ext : Nat → Nat → List Value → ev_H → Nat → ev_P → Prop} {d : Nat} {sh : fl_S} {V : fl_V} {n mb : Nat} {T : Nat → Nat} {S : List Nat} {HH : Nat → Ho} {H : Ho} {h k : Nat}
variable {ho : Nat} {O : Ho} {V0 : fl_V}
set_option maxRecDepth 100000 in
set_option maxHeartbeats 4000000 in
theorem m_sendAll_80 (hm : isMo sh mb) (hh : h < 2) (h1 : h + ho = 1) {Ret : ev_P} {T2 : List (Nat × Value)} {V1 : fl_V} {G : Ho} {ps : List Pkt} (hM : Mo V1 mb T S (va_up (va_up HH ho (hoW O ps)) h G)) (kp : KP mb V0 V1) (lt : G.1 7 < G.2.2.2.2.2.1.length) (lp : ps.length < 32) (hT2 : T2 = [] ∨ (∃ q, T2 = [(3, .int q)]) ∨ ∃ q r, T2 = [(3, .int q), (4, .int r)])
    (next : ∀ (V2 : fl_V) (q r : Int32), Mo V2 mb T S (va_up (va_up HH ho (hoW O (ps ++ [ho_pkt G]))) h (ho_put G)) → KP mb V0 V2 → fl_R cy z0 (ev_M cy ext (d + 3)) 7 0 0 5 none kc_X7_sendAll Ret 2 [(0, .ref (z0 + mb)), (1, .int (nI h)), (2, .int (nI 1)), (3, .int q), (4, .int r)] [] sh V2 n 0 0) : fl_R cy z0 (ev_M cy ext (d + 3)) 7 0 0 5 none kc_X7_sendAll Ret 80 ([(0, .ref (z0 + mb)), (1, .int (nI h)), (2, .int (nI 1))] ++ T2) [] sh V1 n 0 0 := by
  have m0 := hm.1
  have a26 : sh (mb + 26) = some (.inl (1, 2, none)) := hm.2 25 (1, 2) rfl
  have a31 : sh (mb + 31) = some (.inl (1, 2, none)) := hm.2 30 (1, 2) rfl
  have a32 : sh (mb + 32) = some (.inl (1, 2, none)) := hm.2 31 (1, 2) rfl
  have a34 : sh (mb + 34) = some (.inl (1, 2, none)) := hm.2 33 (1, 2) rfl
  obtain ⟨e31, e32, lB, aB, hB⟩ := id (hM.host hh).2.2.2.2.1
  have hW := hM.oW (by omega) (by omega)
  have e1 : 1 - h = ho := by omega
  have b1 : bI true = nI 1 := rfl
  have b0 : bI false = nI 0 := rfl
  rcases hT2 with rfl | ⟨q3, rfl⟩ | ⟨q3, r3, rfl⟩
  · refine fs_iload_n (pc2 := 81) rfl rfl rfl rfl ?_
    try simp (disch := omega) only [nI_lit, pk_mul, nI_add, pk_sub, pk_rem4, nI_clamp, up2_o, up2_s, up2_i, cpV_o, cpV_i, e31, e32, e1]
    refine fs_if_eq (pc2 := 84) rfl rfl rfl (fun h81 => ?_) (fun h81 => ?_)
    · exact absurd h81 (by decide)
    · refine fs_aload_n (pc2 := 85) rfl rfl rfl rfl ?_
      refine fs_getr (pc2 := 88) rfl rfl rfl (by assumption) rfl ?_
      refine fs_iload_n (pc2 := 89) rfl rfl rfl rfl ?_
      try simp (disch := omega) only [nI_lit, pk_mul, nI_add, pk_sub, pk_rem4, nI_clamp, up2_o, up2_s, up2_i, cpV_o, cpV_i, e31, e32, e1]
      refine fs_iald (pc2 := 90) rfl rfl rfl (by assumption) (vp_in_nI (by omega) (by decide)) ?_
      refine fs_aload_n (pc2 := 91) rfl rfl rfl rfl ?_
      refine fs_getr (pc2 := 94) rfl rfl rfl (by assumption) rfl ?_
      refine fs_iload_n (pc2 := 95) rfl rfl rfl rfl ?_
      try simp (disch := omega) only [nI_lit, pk_mul, nI_add, pk_sub, pk_rem4, nI_clamp, up2_o, up2_s, up2_i, cpV_o, cpV_i, e31, e32, e1]
      refine fs_iald (pc2 := 96) rfl rfl rfl (by assumption) (vp_in_nI (by omega) (by decide)) ?_
      refine fs_isub (pc2 := 97) rfl rfl rfl ?_
      refine fs_istore_n (pc2 := 98) rfl rfl rfl (Nat.le_of_ble_eq_true rfl) ?_
      refine fs_iload_n (pc2 := 99) rfl rfl rfl rfl ?_
      refine fs_bipush (pc2 := 101) rfl rfl rfl ?_
      try simp (disch := omega) only [nI_lit, pk_mul, nI_add, pk_sub, pk_rem4, nI_clamp, up2_o, up2_s, up2_i, cpV_o, cpV_i, e31, e32, e1]
      refine fs_icmp_ge (pc2 := 104) rfl rfl rfl (fun h101 => ?_) (fun h101 => ?_)
      · have km : min (G.2.2.2.2.2.1.length - G.1 7) 27 = 27 := by have := c_nlt (b := 27) h101 rfl rfl; omega
        refine fs_bipush (pc2 := 110) rfl rfl rfl ?_
        refine fs_istore (pc2 := 112) rfl rfl rfl (Nat.le_of_ble_eq_true rfl) ?_
        refine fs_aload_n (pc2 := 113) rfl rfl rfl rfl ?_
        refine fs_iconst (pc2 := 114) rfl rfl rfl ?_
        refine fs_iload_n (pc2 := 115) rfl rfl rfl rfl ?_
        refine fs_isub (pc2 := 116) rfl rfl rfl ?_
        refine fs_aload_n (pc2 := 117) rfl rfl rfl rfl ?_
        refine fs_getr (pc2 := 120) rfl rfl rfl (by assumption) rfl ?_
        refine fs_iload_n (pc2 := 121) rfl rfl rfl rfl ?_
        try simp (disch := omega) only [nI_lit, pk_mul, nI_add, pk_sub, pk_rem4, nI_clamp, up2_o, up2_s, up2_i, cpV_o, cpV_i, e31, e32, e1]
        refine fs_iald (pc2 := 122) rfl rfl rfl (by assumption) (vp_in_nI (by omega) (by decide)) ?_
        refine fs_iload (pc2 := 124) rfl rfl rfl rfl ?_
        refine fs_aload_n (pc2 := 125) rfl rfl rfl rfl ?_
        refine fs_getr (pc2 := 128) rfl rfl rfl (by assumption) rfl ?_
        refine fs_iload_n (pc2 := 129) rfl rfl rfl rfl ?_
        try simp (disch := omega) only [nI_lit, pk_mul, nI_add, pk_sub, pk_rem4, nI_clamp, up2_o, up2_s, up2_i, cpV_o, cpV_i, e31, e32, e1]
        refine fs_iald (pc2 := 130) rfl rfl rfl (by assumption) (vp_in_nI (by omega) (by decide)) ?_
        try simp (disch := omega) only [nI_lit, pk_mul, nI_add, pk_sub, pk_rem4, nI_clamp, up2_o, up2_s, up2_i, cpV_o, cpV_i, e31, e32, e1]
        refine fs_if_ne (pc2 := 133) rfl rfl rfl (fun h130 => ?_) (fun h130 => ?_)
        · have k0 : decide (G.1 7 = 0) = false := decide_eq_false (c_ne (b := 0) h130 rfl rfl)
          refine fs_iconst (pc2 := 138) rfl rfl rfl ?_
          refine fs_iconst (pc2 := 139) rfl rfl rfl ?_
          refine fs_iload_n (pc2 := 140) rfl rfl rfl rfl ?_
          first | simp (disch := omega) only [nI_lit, pk_mul, nI_add, pk_sub, pk_rem4, nI_clamp, up2_o, up2_s, up2_i, cpV_o, cpV_i, e31, e32, e1, e32b] | simp (disch := omega) only [nI_lit, pk_mul, nI_add, pk_sub, pk_rem4, nI_clamp, up2_o, up2_s, up2_i, cpV_o, cpV_i, e31, e32, e1] | skip
          refine fs_callv (pc2 := 143) rfl rfl rfl rfl ⟨rfl, rfl⟩ (Nat.le_of_ble_eq_true rfl) (Nat.le_of_ble_eq_true rfl) (Nat.le_of_ble_eq_true rfl) (fs_rcv rfl (by assumption)) (by first | exact m_post hm (mk := false) (ow := true) (m := 27) h1 hW lp hB lB (by omega) (by omega)) (fun v9 sh9 V9 n9 hp9 => ?_)
          obtain ⟨ea9, eb9, ec9, hW2, hF2, kp2⟩ := hp9
          cases ea9
          obtain rfl := eb9.symm
          obtain rfl := ec9.symm
          have e32b : V9 (mb + 32) h = nI (G.1 7) := by rw [hF2 32 h (by simp [own] <;> omega)]; exact e32
          have ek : (false, true, (G.2.2.2.2.2.1.drop (G.1 7)).take 27) = ho_pkt G := by unfold ho_pkt; rw [k0, ← take_min, km]
          rw [ek] at hW2
          have hM2 := hM.pWo (by omega) (by omega) hF2 hW2
          refine fs_aload_n (pc2 := 144) rfl rfl rfl rfl ?_
          refine fs_getr (pc2 := 147) rfl rfl rfl (by assumption) rfl ?_
          refine fs_iload_n (pc2 := 148) rfl rfl rfl rfl ?_
          refine fs_aload_n (pc2 := 149) rfl rfl rfl rfl ?_
          refine fs_getr (pc2 := 152) rfl rfl rfl (by assumption) rfl ?_
          refine fs_iload_n (pc2 := 153) rfl rfl rfl rfl ?_
          first | simp (disch := omega) only [nI_lit, pk_mul, nI_add, pk_sub, pk_rem4, nI_clamp, up2_o, up2_s, up2_i, cpV_o, cpV_i, e31, e32, e1, e32b] | simp (disch := omega) only [nI_lit, pk_mul, nI_add, pk_sub, pk_rem4, nI_clamp, up2_o, up2_s, up2_i, cpV_o, cpV_i, e31, e32, e1] | skip
          refine fs_iald (pc2 := 154) rfl rfl rfl (by assumption) (vp_in_nI (by omega) (by decide)) ?_
          refine fs_iload (pc2 := 156) rfl rfl rfl rfl ?_
          refine fs_iadd (pc2 := 157) rfl rfl rfl ?_
          first | simp (disch := omega) only [nI_lit, pk_mul, nI_add, pk_sub, pk_rem4, nI_clamp, up2_o, up2_s, up2_i, cpV_o, cpV_i, e31, e32, e1, e32b] | simp (disch := omega) only [nI_lit, pk_mul, nI_add, pk_sub, pk_rem4, nI_clamp, up2_o, up2_s, up2_i, cpV_o, cpV_i, e31, e32, e1] | skip
          refine fs_iast (pc2 := 158) rfl rfl rfl (by assumption) (vp_in_nI (by omega) (by decide)) ?_
          refine fs_goto rfl rfl ?_
          try simp (disch := omega) only [nI_lit, pk_mul, nI_add, pk_sub, pk_rem4, nI_clamp, up2_o, up2_s, up2_i, cpV_o, cpV_i]
          have hU2 := (hM2.host hh).2.2.2.2.1
          have hM3 := hM2.pU (B := G.2.2.2.2.2.1) (a := G.1 7 + 27) hh (FM.refl.up (j := 32) (i := h) (v := nI (G.1 7 + 27)) (by simp [own])) ⟨by rw [up2_o (by omega)]; exact hU2.1, up2_s, lB, by omega, by rw [up2_o (by omega)]; exact hU2.2.2.2.2⟩
          rw [show hoB (hoN G 7 (G.1 7 + 27)) G.2.2.2.2.2.1 = ho_put G from by unfold ho_put; rw [show min (G.1 7 + 27) G.2.2.2.2.2.1.length = G.1 7 + 27 by omega]] at hM3
          exact next _ _ _ hM3 (kp.trans (kp2.trans (KP.refl.up (by decide))))
        · have k0 : decide (G.1 7 = 0) = true := decide_eq_true (c_eq (b := 0) h130 rfl rfl)
          refine fs_iconst (pc2 := 134) rfl rfl rfl ?_
          refine fs_goto rfl rfl ?_
          refine fs_iconst (pc2 := 139) rfl rfl rfl ?_
          refine fs_iload_n (pc2 := 140) rfl rfl rfl rfl ?_
          first | simp (disch := omega) only [nI_lit, pk_mul, nI_add, pk_sub, pk_rem4, nI_clamp, up2_o, up2_s, up2_i, cpV_o, cpV_i, e31, e32, e1, e32b] | simp (disch := omega) only [nI_lit, pk_mul, nI_add, pk_sub, pk_rem4, nI_clamp, up2_o, up2_s, up2_i, cpV_o, cpV_i, e31, e32, e1] | skip
          refine fs_callv (pc2 := 143) rfl rfl rfl rfl ⟨rfl, rfl⟩ (Nat.le_of_ble_eq_true rfl) (Nat.le_of_ble_eq_true rfl) (Nat.le_of_ble_eq_true rfl) (fs_rcv rfl (by assumption)) (by first | exact m_post hm (mk := true) (ow := true) (m := 27) h1 hW lp hB lB (by omega) (by omega)) (fun v9 sh9 V9 n9 hp9 => ?_)
          obtain ⟨ea9, eb9, ec9, hW2, hF2, kp2⟩ := hp9
          cases ea9
          obtain rfl := eb9.symm
          obtain rfl := ec9.symm
          have e32b : V9 (mb + 32) h = nI (G.1 7) := by rw [hF2 32 h (by simp [own] <;> omega)]; exact e32
          have ek : (true, true, (G.2.2.2.2.2.1.drop (G.1 7)).take 27) = ho_pkt G := by unfold ho_pkt; rw [k0, ← take_min, km]
          rw [ek] at hW2
          have hM2 := hM.pWo (by omega) (by omega) hF2 hW2
          refine fs_aload_n (pc2 := 144) rfl rfl rfl rfl ?_
          refine fs_getr (pc2 := 147) rfl rfl rfl (by assumption) rfl ?_
          refine fs_iload_n (pc2 := 148) rfl rfl rfl rfl ?_
          refine fs_aload_n (pc2 := 149) rfl rfl rfl rfl ?_
          refine fs_getr (pc2 := 152) rfl rfl rfl (by assumption) rfl ?_
          refine fs_iload_n (pc2 := 153) rfl rfl rfl rfl ?_
          first | simp (disch := omega) only [nI_lit, pk_mul, nI_add, pk_sub, pk_rem4, nI_clamp, up2_o, up2_s, up2_i, cpV_o, cpV_i, e31, e32, e1, e32b] | simp (disch := omega) only [nI_lit, pk_mul, nI_add, pk_sub, pk_rem4, nI_clamp, up2_o, up2_s, up2_i, cpV_o, cpV_i, e31, e32, e1] | skip
          refine fs_iald (pc2 := 154) rfl rfl rfl (by assumption) (vp_in_nI (by omega) (by decide)) ?_
          refine fs_iload (pc2 := 156) rfl rfl rfl rfl ?_
          refine fs_iadd (pc2 := 157) rfl rfl rfl ?_
          first | simp (disch := omega) only [nI_lit, pk_mul, nI_add, pk_sub, pk_rem4, nI_clamp, up2_o, up2_s, up2_i, cpV_o, cpV_i, e31, e32, e1, e32b] | simp (disch := omega) only [nI_lit, pk_mul, nI_add, pk_sub, pk_rem4, nI_clamp, up2_o, up2_s, up2_i, cpV_o, cpV_i, e31, e32, e1] | skip
          refine fs_iast (pc2 := 158) rfl rfl rfl (by assumption) (vp_in_nI (by omega) (by decide)) ?_
          refine fs_goto rfl rfl ?_
          try simp (disch := omega) only [nI_lit, pk_mul, nI_add, pk_sub, pk_rem4, nI_clamp, up2_o, up2_s, up2_i, cpV_o, cpV_i]
          have hU2 := (hM2.host hh).2.2.2.2.1
          have hM3 := hM2.pU (B := G.2.2.2.2.2.1) (a := G.1 7 + 27) hh (FM.refl.up (j := 32) (i := h) (v := nI (G.1 7 + 27)) (by simp [own])) ⟨by rw [up2_o (by omega)]; exact hU2.1, up2_s, lB, by omega, by rw [up2_o (by omega)]; exact hU2.2.2.2.2⟩
          rw [show hoB (hoN G 7 (G.1 7 + 27)) G.2.2.2.2.2.1 = ho_put G from by unfold ho_put; rw [show min (G.1 7 + 27) G.2.2.2.2.2.1.length = G.1 7 + 27 by omega]] at hM3
          exact next _ _ _ hM3 (kp.trans (kp2.trans (KP.refl.up (by decide))))
      · have km : min (G.2.2.2.2.2.1.length - G.1 7) 27 = G.2.2.2.2.2.1.length - G.1 7 := by have := c_lt (b := 27) h101 rfl rfl; omega
        refine fs_iload_n (pc2 := 105) rfl rfl rfl rfl ?_
        refine fs_goto rfl rfl ?_
        refine fs_istore (pc2 := 112) rfl rfl rfl (Nat.le_of_ble_eq_true rfl) ?_
        refine fs_aload_n (pc2 := 113) rfl rfl rfl rfl ?_
        refine fs_iconst (pc2 := 114) rfl rfl rfl ?_
        refine fs_iload_n (pc2 := 115) rfl rfl rfl rfl ?_
        refine fs_isub (pc2 := 116) rfl rfl rfl ?_
        refine fs_aload_n (pc2 := 117) rfl rfl rfl rfl ?_
        refine fs_getr (pc2 := 120) rfl rfl rfl (by assumption) rfl ?_
        refine fs_iload_n (pc2 := 121) rfl rfl rfl rfl ?_
        try simp (disch := omega) only [nI_lit, pk_mul, nI_add, pk_sub, pk_rem4, nI_clamp, up2_o, up2_s, up2_i, cpV_o, cpV_i, e31, e32, e1]
        refine fs_iald (pc2 := 122) rfl rfl rfl (by assumption) (vp_in_nI (by omega) (by decide)) ?_
        refine fs_iload (pc2 := 124) rfl rfl rfl rfl ?_
        refine fs_aload_n (pc2 := 125) rfl rfl rfl rfl ?_
        refine fs_getr (pc2 := 128) rfl rfl rfl (by assumption) rfl ?_
        refine fs_iload_n (pc2 := 129) rfl rfl rfl rfl ?_
        try simp (disch := omega) only [nI_lit, pk_mul, nI_add, pk_sub, pk_rem4, nI_clamp, up2_o, up2_s, up2_i, cpV_o, cpV_i, e31, e32, e1]
        refine fs_iald (pc2 := 130) rfl rfl rfl (by assumption) (vp_in_nI (by omega) (by decide)) ?_
        try simp (disch := omega) only [nI_lit, pk_mul, nI_add, pk_sub, pk_rem4, nI_clamp, up2_o, up2_s, up2_i, cpV_o, cpV_i, e31, e32, e1]
        refine fs_if_ne (pc2 := 133) rfl rfl rfl (fun h130 => ?_) (fun h130 => ?_)
        · have k0 : decide (G.1 7 = 0) = false := decide_eq_false (c_ne (b := 0) h130 rfl rfl)
          refine fs_iconst (pc2 := 138) rfl rfl rfl ?_
          refine fs_iconst (pc2 := 139) rfl rfl rfl ?_
          refine fs_iload_n (pc2 := 140) rfl rfl rfl rfl ?_
          first | simp (disch := omega) only [nI_lit, pk_mul, nI_add, pk_sub, pk_rem4, nI_clamp, up2_o, up2_s, up2_i, cpV_o, cpV_i, e31, e32, e1, e32b] | simp (disch := omega) only [nI_lit, pk_mul, nI_add, pk_sub, pk_rem4, nI_clamp, up2_o, up2_s, up2_i, cpV_o, cpV_i, e31, e32, e1] | skip
          refine fs_callv (pc2 := 143) rfl rfl rfl rfl ⟨rfl, rfl⟩ (Nat.le_of_ble_eq_true rfl) (Nat.le_of_ble_eq_true rfl) (Nat.le_of_ble_eq_true rfl) (fs_rcv rfl (by assumption)) (by first | exact m_post hm (mk := false) (ow := true) (m := (G.2.2.2.2.2.1.length - G.1 7)) h1 hW lp hB lB (by omega) (by omega)) (fun v9 sh9 V9 n9 hp9 => ?_)
          obtain ⟨ea9, eb9, ec9, hW2, hF2, kp2⟩ := hp9
          cases ea9
          obtain rfl := eb9.symm
          obtain rfl := ec9.symm
          have e32b : V9 (mb + 32) h = nI (G.1 7) := by rw [hF2 32 h (by simp [own] <;> omega)]; exact e32
          have ek : (false, true, (G.2.2.2.2.2.1.drop (G.1 7)).take (G.2.2.2.2.2.1.length - G.1 7)) = ho_pkt G := by unfold ho_pkt; rw [k0, ← take_min, km]
          rw [ek] at hW2
          have hM2 := hM.pWo (by omega) (by omega) hF2 hW2
          refine fs_aload_n (pc2 := 144) rfl rfl rfl rfl ?_
          refine fs_getr (pc2 := 147) rfl rfl rfl (by assumption) rfl ?_
          refine fs_iload_n (pc2 := 148) rfl rfl rfl rfl ?_
          refine fs_aload_n (pc2 := 149) rfl rfl rfl rfl ?_
          refine fs_getr (pc2 := 152) rfl rfl rfl (by assumption) rfl ?_
          refine fs_iload_n (pc2 := 153) rfl rfl rfl rfl ?_
          first | simp (disch := omega) only [nI_lit, pk_mul, nI_add, pk_sub, pk_rem4, nI_clamp, up2_o, up2_s, up2_i, cpV_o, cpV_i, e31, e32, e1, e32b] | simp (disch := omega) only [nI_lit, pk_mul, nI_add, pk_sub, pk_rem4, nI_clamp, up2_o, up2_s, up2_i, cpV_o, cpV_i, e31, e32, e1] | skip
          refine fs_iald (pc2 := 154) rfl rfl rfl (by assumption) (vp_in_nI (by omega) (by decide)) ?_
          refine fs_iload (pc2 := 156) rfl rfl rfl rfl ?_
          refine fs_iadd (pc2 := 157) rfl rfl rfl ?_
          first | simp (disch := omega) only [nI_lit, pk_mul, nI_add, pk_sub, pk_rem4, nI_clamp, up2_o, up2_s, up2_i, cpV_o, cpV_i, e31, e32, e1, e32b] | simp (disch := omega) only [nI_lit, pk_mul, nI_add, pk_sub, pk_rem4, nI_clamp, up2_o, up2_s, up2_i, cpV_o, cpV_i, e31, e32, e1] | skip
          refine fs_iast (pc2 := 158) rfl rfl rfl (by assumption) (vp_in_nI (by omega) (by decide)) ?_
          refine fs_goto rfl rfl ?_
          try simp (disch := omega) only [nI_lit, pk_mul, nI_add, pk_sub, pk_rem4, nI_clamp, up2_o, up2_s, up2_i, cpV_o, cpV_i]
          have hU2 := (hM2.host hh).2.2.2.2.1
          have hM3 := hM2.pU (B := G.2.2.2.2.2.1) (a := G.1 7 + (G.2.2.2.2.2.1.length - G.1 7)) hh (FM.refl.up (j := 32) (i := h) (v := nI (G.1 7 + (G.2.2.2.2.2.1.length - G.1 7))) (by simp [own])) ⟨by rw [up2_o (by omega)]; exact hU2.1, up2_s, lB, by omega, by rw [up2_o (by omega)]; exact hU2.2.2.2.2⟩
          rw [show hoB (hoN G 7 (G.1 7 + (G.2.2.2.2.2.1.length - G.1 7))) G.2.2.2.2.2.1 = ho_put G from by unfold ho_put; rw [show min (G.1 7 + 27) G.2.2.2.2.2.1.length = G.1 7 + (G.2.2.2.2.2.1.length - G.1 7) by omega]] at hM3
          exact next _ _ _ hM3 (kp.trans (kp2.trans (KP.refl.up (by decide))))
        · have k0 : decide (G.1 7 = 0) = true := decide_eq_true (c_eq (b := 0) h130 rfl rfl)
          refine fs_iconst (pc2 := 134) rfl rfl rfl ?_
          refine fs_goto rfl rfl ?_
          refine fs_iconst (pc2 := 139) rfl rfl rfl ?_
          refine fs_iload_n (pc2 := 140) rfl rfl rfl rfl ?_
          first | simp (disch := omega) only [nI_lit, pk_mul, nI_add, pk_sub, pk_rem4, nI_clamp, up2_o, up2_s, up2_i, cpV_o, cpV_i, e31, e32, e1, e32b] | simp (disch := omega) only [nI_lit, pk_mul, nI_add, pk_sub, pk_rem4, nI_clamp, up2_o, up2_s, up2_i, cpV_o, cpV_i, e31, e32, e1] | skip
          refine fs_callv (pc2 := 143) rfl rfl rfl rfl ⟨rfl, rfl⟩ (Nat.le_of_ble_eq_true rfl) (Nat.le_of_ble_eq_true rfl) (Nat.le_of_ble_eq_true rfl) (fs_rcv rfl (by assumption)) (by first | exact m_post hm (mk := true) (ow := true) (m := (G.2.2.2.2.2.1.length - G.1 7)) h1 hW lp hB lB (by omega) (by omega)) (fun v9 sh9 V9 n9 hp9 => ?_)
          obtain ⟨ea9, eb9, ec9, hW2, hF2, kp2⟩ := hp9
          cases ea9
          obtain rfl := eb9.symm
          obtain rfl := ec9.symm
          have e32b : V9 (mb + 32) h = nI (G.1 7) := by rw [hF2 32 h (by simp [own] <;> omega)]; exact e32
          have ek : (true, true, (G.2.2.2.2.2.1.drop (G.1 7)).take (G.2.2.2.2.2.1.length - G.1 7)) = ho_pkt G := by unfold ho_pkt; rw [k0, ← take_min, km]
          rw [ek] at hW2
          have hM2 := hM.pWo (by omega) (by omega) hF2 hW2
          refine fs_aload_n (pc2 := 144) rfl rfl rfl rfl ?_
          refine fs_getr (pc2 := 147) rfl rfl rfl (by assumption) rfl ?_
          refine fs_iload_n (pc2 := 148) rfl rfl rfl rfl ?_
          refine fs_aload_n (pc2 := 149) rfl rfl rfl rfl ?_
          refine fs_getr (pc2 := 152) rfl rfl rfl (by assumption) rfl ?_
          refine fs_iload_n (pc2 := 153) rfl rfl rfl rfl ?_
          first | simp (disch := omega) only [nI_lit, pk_mul, nI_add, pk_sub, pk_rem4, nI_clamp, up2_o, up2_s, up2_i, cpV_o, cpV_i, e31, e32, e1, e32b] | simp (disch := omega) only [nI_lit, pk_mul, nI_add, pk_sub, pk_rem4, nI_clamp, up2_o, up2_s, up2_i, cpV_o, cpV_i, e31, e32, e1] | skip
          refine fs_iald (pc2 := 154) rfl rfl rfl (by assumption) (vp_in_nI (by omega) (by decide)) ?_
          refine fs_iload (pc2 := 156) rfl rfl rfl rfl ?_
          refine fs_iadd (pc2 := 157) rfl rfl rfl ?_
          first | simp (disch := omega) only [nI_lit, pk_mul, nI_add, pk_sub, pk_rem4, nI_clamp, up2_o, up2_s, up2_i, cpV_o, cpV_i, e31, e32, e1, e32b] | simp (disch := omega) only [nI_lit, pk_mul, nI_add, pk_sub, pk_rem4, nI_clamp, up2_o, up2_s, up2_i, cpV_o, cpV_i, e31, e32, e1] | skip
          refine fs_iast (pc2 := 158) rfl rfl rfl (by assumption) (vp_in_nI (by omega) (by decide)) ?_
          refine fs_goto rfl rfl ?_
          try simp (disch := omega) only [nI_lit, pk_mul, nI_add, pk_sub, pk_rem4, nI_clamp, up2_o, up2_s, up2_i, cpV_o, cpV_i]
          have hU2 := (hM2.host hh).2.2.2.2.1
          have hM3 := hM2.pU (B := G.2.2.2.2.2.1) (a := G.1 7 + (G.2.2.2.2.2.1.length - G.1 7)) hh (FM.refl.up (j := 32) (i := h) (v := nI (G.1 7 + (G.2.2.2.2.2.1.length - G.1 7))) (by simp [own])) ⟨by rw [up2_o (by omega)]; exact hU2.1, up2_s, lB, by omega, by rw [up2_o (by omega)]; exact hU2.2.2.2.2⟩
          rw [show hoB (hoN G 7 (G.1 7 + (G.2.2.2.2.2.1.length - G.1 7))) G.2.2.2.2.2.1 = ho_put G from by unfold ho_put; rw [show min (G.1 7 + 27) G.2.2.2.2.2.1.length = G.1 7 + (G.2.2.2.2.2.1.length - G.1 7) by omega]] at hM3
          exact next _ _ _ hM3 (kp.trans (kp2.trans (KP.refl.up (by decide))))
  · refine fs_iload_n (pc2 := 81) rfl rfl rfl rfl ?_
    try simp (disch := omega) only [nI_lit, pk_mul, nI_add, pk_sub, pk_rem4, nI_clamp, up2_o, up2_s, up2_i, cpV_o, cpV_i, e31, e32, e1]
    refine fs_if_eq (pc2 := 84) rfl rfl rfl (fun h81 => ?_) (fun h81 => ?_)
    · exact absurd h81 (by decide)
    · refine fs_aload_n (pc2 := 85) rfl rfl rfl rfl ?_
      refine fs_getr (pc2 := 88) rfl rfl rfl (by assumption) rfl ?_
      refine fs_iload_n (pc2 := 89) rfl rfl rfl rfl ?_
      try simp (disch := omega) only [nI_lit, pk_mul, nI_add, pk_sub, pk_rem4, nI_clamp, up2_o, up2_s, up2_i, cpV_o, cpV_i, e31, e32, e1]
      refine fs_iald (pc2 := 90) rfl rfl rfl (by assumption) (vp_in_nI (by omega) (by decide)) ?_
      refine fs_aload_n (pc2 := 91) rfl rfl rfl rfl ?_
      refine fs_getr (pc2 := 94) rfl rfl rfl (by assumption) rfl ?_
      refine fs_iload_n (pc2 := 95) rfl rfl rfl rfl ?_
      try simp (disch := omega) only [nI_lit, pk_mul, nI_add, pk_sub, pk_rem4, nI_clamp, up2_o, up2_s, up2_i, cpV_o, cpV_i, e31, e32, e1]
      refine fs_iald (pc2 := 96) rfl rfl rfl (by assumption) (vp_in_nI (by omega) (by decide)) ?_
      refine fs_isub (pc2 := 97) rfl rfl rfl ?_
      refine fs_istore_n (pc2 := 98) rfl rfl rfl (Nat.le_of_ble_eq_true rfl) ?_
      refine fs_iload_n (pc2 := 99) rfl rfl rfl rfl ?_
      refine fs_bipush (pc2 := 101) rfl rfl rfl ?_
      try simp (disch := omega) only [nI_lit, pk_mul, nI_add, pk_sub, pk_rem4, nI_clamp, up2_o, up2_s, up2_i, cpV_o, cpV_i, e31, e32, e1]
      refine fs_icmp_ge (pc2 := 104) rfl rfl rfl (fun h101 => ?_) (fun h101 => ?_)
      · have km : min (G.2.2.2.2.2.1.length - G.1 7) 27 = 27 := by have := c_nlt (b := 27) h101 rfl rfl; omega
        refine fs_bipush (pc2 := 110) rfl rfl rfl ?_
        refine fs_istore (pc2 := 112) rfl rfl rfl (Nat.le_of_ble_eq_true rfl) ?_
        refine fs_aload_n (pc2 := 113) rfl rfl rfl rfl ?_
        refine fs_iconst (pc2 := 114) rfl rfl rfl ?_
        refine fs_iload_n (pc2 := 115) rfl rfl rfl rfl ?_
        refine fs_isub (pc2 := 116) rfl rfl rfl ?_
        refine fs_aload_n (pc2 := 117) rfl rfl rfl rfl ?_
        refine fs_getr (pc2 := 120) rfl rfl rfl (by assumption) rfl ?_
        refine fs_iload_n (pc2 := 121) rfl rfl rfl rfl ?_
        try simp (disch := omega) only [nI_lit, pk_mul, nI_add, pk_sub, pk_rem4, nI_clamp, up2_o, up2_s, up2_i, cpV_o, cpV_i, e31, e32, e1]
        refine fs_iald (pc2 := 122) rfl rfl rfl (by assumption) (vp_in_nI (by omega) (by decide)) ?_
        refine fs_iload (pc2 := 124) rfl rfl rfl rfl ?_
        refine fs_aload_n (pc2 := 125) rfl rfl rfl rfl ?_
        refine fs_getr (pc2 := 128) rfl rfl rfl (by assumption) rfl ?_
        refine fs_iload_n (pc2 := 129) rfl rfl rfl rfl ?_
        try simp (disch := omega) only [nI_lit, pk_mul, nI_add, pk_sub, pk_rem4, nI_clamp, up2_o, up2_s, up2_i, cpV_o, cpV_i, e31, e32, e1]
        refine fs_iald (pc2 := 130) rfl rfl rfl (by assumption) (vp_in_nI (by omega) (by decide)) ?_
        try simp (disch := omega) only [nI_lit, pk_mul, nI_add, pk_sub, pk_rem4, nI_clamp, up2_o, up2_s, up2_i, cpV_o, cpV_i, e31, e32, e1]
        refine fs_if_ne (pc2 := 133) rfl rfl rfl (fun h130 => ?_) (fun h130 => ?_)
        · have k0 : decide (G.1 7 = 0) = false := decide_eq_false (c_ne (b := 0) h130 rfl rfl)
          refine fs_iconst (pc2 := 138) rfl rfl rfl ?_
          refine fs_iconst (pc2 := 139) rfl rfl rfl ?_
          refine fs_iload_n (pc2 := 140) rfl rfl rfl rfl ?_
          first | simp (disch := omega) only [nI_lit, pk_mul, nI_add, pk_sub, pk_rem4, nI_clamp, up2_o, up2_s, up2_i, cpV_o, cpV_i, e31, e32, e1, e32b] | simp (disch := omega) only [nI_lit, pk_mul, nI_add, pk_sub, pk_rem4, nI_clamp, up2_o, up2_s, up2_i, cpV_o, cpV_i, e31, e32, e1] | skip
          refine fs_callv (pc2 := 143) rfl rfl rfl rfl ⟨rfl, rfl⟩ (Nat.le_of_ble_eq_true rfl) (Nat.le_of_ble_eq_true rfl) (Nat.le_of_ble_eq_true rfl) (fs_rcv rfl (by assumption)) (by first | exact m_post hm (mk := false) (ow := true) (m := 27) h1 hW lp hB lB (by omega) (by omega)) (fun v9 sh9 V9 n9 hp9 => ?_)
          obtain ⟨ea9, eb9, ec9, hW2, hF2, kp2⟩ := hp9
          cases ea9
          obtain rfl := eb9.symm
          obtain rfl := ec9.symm
          have e32b : V9 (mb + 32) h = nI (G.1 7) := by rw [hF2 32 h (by simp [own] <;> omega)]; exact e32
          have ek : (false, true, (G.2.2.2.2.2.1.drop (G.1 7)).take 27) = ho_pkt G := by unfold ho_pkt; rw [k0, ← take_min, km]
          rw [ek] at hW2
          have hM2 := hM.pWo (by omega) (by omega) hF2 hW2
          refine fs_aload_n (pc2 := 144) rfl rfl rfl rfl ?_
          refine fs_getr (pc2 := 147) rfl rfl rfl (by assumption) rfl ?_
          refine fs_iload_n (pc2 := 148) rfl rfl rfl rfl ?_
          refine fs_aload_n (pc2 := 149) rfl rfl rfl rfl ?_
          refine fs_getr (pc2 := 152) rfl rfl rfl (by assumption) rfl ?_
          refine fs_iload_n (pc2 := 153) rfl rfl rfl rfl ?_
          first | simp (disch := omega) only [nI_lit, pk_mul, nI_add, pk_sub, pk_rem4, nI_clamp, up2_o, up2_s, up2_i, cpV_o, cpV_i, e31, e32, e1, e32b] | simp (disch := omega) only [nI_lit, pk_mul, nI_add, pk_sub, pk_rem4, nI_clamp, up2_o, up2_s, up2_i, cpV_o, cpV_i, e31, e32, e1] | skip
          refine fs_iald (pc2 := 154) rfl rfl rfl (by assumption) (vp_in_nI (by omega) (by decide)) ?_
          refine fs_iload (pc2 := 156) rfl rfl rfl rfl ?_
          refine fs_iadd (pc2 := 157) rfl rfl rfl ?_
          first | simp (disch := omega) only [nI_lit, pk_mul, nI_add, pk_sub, pk_rem4, nI_clamp, up2_o, up2_s, up2_i, cpV_o, cpV_i, e31, e32, e1, e32b] | simp (disch := omega) only [nI_lit, pk_mul, nI_add, pk_sub, pk_rem4, nI_clamp, up2_o, up2_s, up2_i, cpV_o, cpV_i, e31, e32, e1] | skip
          refine fs_iast (pc2 := 158) rfl rfl rfl (by assumption) (vp_in_nI (by omega) (by decide)) ?_
          refine fs_goto rfl rfl ?_
          try simp (disch := omega) only [nI_lit, pk_mul, nI_add, pk_sub, pk_rem4, nI_clamp, up2_o, up2_s, up2_i, cpV_o, cpV_i]
          have hU2 := (hM2.host hh).2.2.2.2.1
          have hM3 := hM2.pU (B := G.2.2.2.2.2.1) (a := G.1 7 + 27) hh (FM.refl.up (j := 32) (i := h) (v := nI (G.1 7 + 27)) (by simp [own])) ⟨by rw [up2_o (by omega)]; exact hU2.1, up2_s, lB, by omega, by rw [up2_o (by omega)]; exact hU2.2.2.2.2⟩
          rw [show hoB (hoN G 7 (G.1 7 + 27)) G.2.2.2.2.2.1 = ho_put G from by unfold ho_put; rw [show min (G.1 7 + 27) G.2.2.2.2.2.1.length = G.1 7 + 27 by omega]] at hM3
          exact next _ _ _ hM3 (kp.trans (kp2.trans (KP.refl.up (by decide))))
        · have k0 : decide (G.1 7 = 0) = true := decide_eq_true (c_eq (b := 0) h130 rfl rfl)
          refine fs_iconst (pc2 := 134) rfl rfl rfl ?_
          refine fs_goto rfl rfl ?_
          refine fs_iconst (pc2 := 139) rfl rfl rfl ?_
          refine fs_iload_n (pc2 := 140) rfl rfl rfl rfl ?_
          first | simp (disch := omega) only [nI_lit, pk_mul, nI_add, pk_sub, pk_rem4, nI_clamp, up2_o, up2_s, up2_i, cpV_o, cpV_i, e31, e32, e1, e32b] | simp (disch := omega) only [nI_lit, pk_mul, nI_add, pk_sub, pk_rem4, nI_clamp, up2_o, up2_s, up2_i, cpV_o, cpV_i, e31, e32, e1] | skip
          refine fs_callv (pc2 := 143) rfl rfl rfl rfl ⟨rfl, rfl⟩ (Nat.le_of_ble_eq_true rfl) (Nat.le_of_ble_eq_true rfl) (Nat.le_of_ble_eq_true rfl) (fs_rcv rfl (by assumption)) (by first | exact m_post hm (mk := true) (ow := true) (m := 27) h1 hW lp hB lB (by omega) (by omega)) (fun v9 sh9 V9 n9 hp9 => ?_)
          obtain ⟨ea9, eb9, ec9, hW2, hF2, kp2⟩ := hp9
          cases ea9
          obtain rfl := eb9.symm
          obtain rfl := ec9.symm
          have e32b : V9 (mb + 32) h = nI (G.1 7) := by rw [hF2 32 h (by simp [own] <;> omega)]; exact e32
          have ek : (true, true, (G.2.2.2.2.2.1.drop (G.1 7)).take 27) = ho_pkt G := by unfold ho_pkt; rw [k0, ← take_min, km]
          rw [ek] at hW2
          have hM2 := hM.pWo (by omega) (by omega) hF2 hW2
          refine fs_aload_n (pc2 := 144) rfl rfl rfl rfl ?_
          refine fs_getr (pc2 := 147) rfl rfl rfl (by assumption) rfl ?_
          refine fs_iload_n (pc2 := 148) rfl rfl rfl rfl ?_
          refine fs_aload_n (pc2 := 149) rfl rfl rfl rfl ?_
          refine fs_getr (pc2 := 152) rfl rfl rfl (by assumption) rfl ?_
          refine fs_iload_n (pc2 := 153) rfl rfl rfl rfl ?_
          first | simp (disch := omega) only [nI_lit, pk_mul, nI_add, pk_sub, pk_rem4, nI_clamp, up2_o, up2_s, up2_i, cpV_o, cpV_i, e31, e32, e1, e32b] | simp (disch := omega) only [nI_lit, pk_mul, nI_add, pk_sub, pk_rem4, nI_clamp, up2_o, up2_s, up2_i, cpV_o, cpV_i, e31, e32, e1] | skip
          refine fs_iald (pc2 := 154) rfl rfl rfl (by assumption) (vp_in_nI (by omega) (by decide)) ?_
          refine fs_iload (pc2 := 156) rfl rfl rfl rfl ?_
          refine fs_iadd (pc2 := 157) rfl rfl rfl ?_
          first | simp (disch := omega) only [nI_lit, pk_mul, nI_add, pk_sub, pk_rem4, nI_clamp, up2_o, up2_s, up2_i, cpV_o, cpV_i, e31, e32, e1, e32b] | simp (disch := omega) only [nI_lit, pk_mul, nI_add, pk_sub, pk_rem4, nI_clamp, up2_o, up2_s, up2_i, cpV_o, cpV_i, e31, e32, e1] | skip
          refine fs_iast (pc2 := 158) rfl rfl rfl (by assumption) (vp_in_nI (by omega) (by decide)) ?_
          refine fs_goto rfl rfl ?_
          try simp (disch := omega) only [nI_lit, pk_mul, nI_add, pk_sub, pk_rem4, nI_clamp, up2_o, up2_s, up2_i, cpV_o, cpV_i]
          have hU2 := (hM2.host hh).2.2.2.2.1
          have hM3 := hM2.pU (B := G.2.2.2.2.2.1) (a := G.1 7 + 27) hh (FM.refl.up (j := 32) (i := h) (v := nI (G.1 7 + 27)) (by simp [own])) ⟨by rw [up2_o (by omega)]; exact hU2.1, up2_s, lB, by omega, by rw [up2_o (by omega)]; exact hU2.2.2.2.2⟩
          rw [show hoB (hoN G 7 (G.1 7 + 27)) G.2.2.2.2.2.1 = ho_put G from by unfold ho_put; rw [show min (G.1 7 + 27) G.2.2.2.2.2.1.length = G.1 7 + 27 by omega]] at hM3
          exact next _ _ _ hM3 (kp.trans (kp2.trans (KP.refl.up (by decide))))
      · have km : min (G.2.2.2.2.2.1.length - G.1 7) 27 = G.2.2.2.2.2.1.length - G.1 7 := by have := c_lt (b := 27) h101 rfl rfl; omega
        refine fs_iload_n (pc2 := 105) rfl rfl rfl rfl ?_
        refine fs_goto rfl rfl ?_
        refine fs_istore (pc2 := 112) rfl rfl rfl (Nat.le_of_ble_eq_true rfl) ?_
        refine fs_aload_n (pc2 := 113) rfl rfl rfl rfl ?_
        refine fs_iconst (pc2 := 114) rfl rfl rfl ?_
        refine fs_iload_n (pc2 := 115) rfl rfl rfl rfl ?_
        refine fs_isub (pc2 := 116) rfl rfl rfl ?_
        refine fs_aload_n (pc2 := 117) rfl rfl rfl rfl ?_
        refine fs_getr (pc2 := 120) rfl rfl rfl (by assumption) rfl ?_
        refine fs_iload_n (pc2 := 121) rfl rfl rfl rfl ?_
        try simp (disch := omega) only [nI_lit, pk_mul, nI_add, pk_sub, pk_rem4, nI_clamp, up2_o, up2_s, up2_i, cpV_o, cpV_i, e31, e32, e1]
        refine fs_iald (pc2 := 122) rfl rfl rfl (by assumption) (vp_in_nI (by omega) (by decide)) ?_
        refine fs_iload (pc2 := 124) rfl rfl rfl rfl ?_
        refine fs_aload_n (pc2 := 125) rfl rfl rfl rfl ?_
        refine fs_getr (pc2 := 128) rfl rfl rfl (by assumption) rfl ?_
        refine fs_iload_n (pc2 := 129) rfl rfl rfl rfl ?_
        try simp (disch := omega) only [nI_lit, pk_mul, nI_add, pk_sub, pk_rem4, nI_clamp, up2_o, up2_s, up2_i, cpV_o, cpV_i, e31, e32, e1]
        refine fs_iald (pc2 := 130) rfl rfl rfl (by assumption) (vp_in_nI (by omega) (by decide)) ?_
        try simp (disch := omega) only [nI_lit, pk_mul, nI_add, pk_sub, pk_rem4, nI_clamp, up2_o, up2_s, up2_i, cpV_o, cpV_i, e31, e32, e1]
        refine fs_if_ne (pc2 := 133) rfl rfl rfl (fun h130 => ?_) (fun h130 => ?_)
        · have k0 : decide (G.1 7 = 0) = false := decide_eq_false (c_ne (b := 0) h130 rfl rfl)
          refine fs_iconst (pc2 := 138) rfl rfl rfl ?_
          refine fs_iconst (pc2 := 139) rfl rfl rfl ?_
          refine fs_iload_n (pc2 := 140) rfl rfl rfl rfl ?_
          first | simp (disch := omega) only [nI_lit, pk_mul, nI_add, pk_sub, pk_rem4, nI_clamp, up2_o, up2_s, up2_i, cpV_o, cpV_i, e31, e32, e1, e32b] | simp (disch := omega) only [nI_lit, pk_mul, nI_add, pk_sub, pk_rem4, nI_clamp, up2_o, up2_s, up2_i, cpV_o, cpV_i, e31, e32, e1] | skip
          refine fs_callv (pc2 := 143) rfl rfl rfl rfl ⟨rfl, rfl⟩ (Nat.le_of_ble_eq_true rfl) (Nat.le_of_ble_eq_true rfl) (Nat.le_of_ble_eq_true rfl) (fs_rcv rfl (by assumption)) (by first | exact m_post hm (mk := false) (ow := true) (m := (G.2.2.2.2.2.1.length - G.1 7)) h1 hW lp hB lB (by omega) (by omega)) (fun v9 sh9 V9 n9 hp9 => ?_)
          obtain ⟨ea9, eb9, ec9, hW2, hF2, kp2⟩ := hp9
          cases ea9
          obtain rfl := eb9.symm
          obtain rfl := ec9.symm
          have e32b : V9 (mb + 32) h = nI (G.1 7) := by rw [hF2 32 h (by simp [own] <;> omega)]; exact e32
          have ek : (false, true, (G.2.2.2.2.2.1.drop (G.1 7)).take (G.2.2.2.2.2.1.length - G.1 7)) = ho_pkt G := by unfold ho_pkt; rw [k0, ← take_min, km]
          rw [ek] at hW2
          have hM2 := hM.pWo (by omega) (by omega) hF2 hW2
          refine fs_aload_n (pc2 := 144) rfl rfl rfl rfl ?_
          refine fs_getr (pc2 := 147) rfl rfl rfl (by assumption) rfl ?_
          refine fs_iload_n (pc2 := 148) rfl rfl rfl rfl ?_
          refine fs_aload_n (pc2 := 149) rfl rfl rfl rfl ?_
          refine fs_getr (pc2 := 152) rfl rfl rfl (by assumption) rfl ?_
          refine fs_iload_n (pc2 := 153) rfl rfl rfl rfl ?_
          first | simp (disch := omega) only [nI_lit, pk_mul, nI_add, pk_sub, pk_rem4, nI_clamp, up2_o, up2_s, up2_i, cpV_o, cpV_i, e31, e32, e1, e32b] | simp (disch := omega) only [nI_lit, pk_mul, nI_add, pk_sub, pk_rem4, nI_clamp, up2_o, up2_s, up2_i, cpV_o, cpV_i, e31, e32, e1] | skip
          refine fs_iald (pc2 := 154) rfl rfl rfl (by assumption) (vp_in_nI (by omega) (by decide)) ?_
          refine fs_iload (pc2 := 156) rfl rfl rfl rfl ?_
          refine fs_iadd (pc2 := 157) rfl rfl rfl ?_
          first | simp (disch := omega) only [nI_lit, pk_mul, nI_add, pk_sub, pk_rem4, nI_clamp, up2_o, up2_s, up2_i, cpV_o, cpV_i, e31, e32, e1, e32b] | simp (disch := omega) only [nI_lit, pk_mul, nI_add, pk_sub, pk_rem4, nI_clamp, up2_o, up2_s, up2_i, cpV_o, cpV_i, e31, e32, e1] | skip
          refine fs_iast (pc2 := 158) rfl rfl rfl (by assumption) (vp_in_nI (by omega) (by decide)) ?_
          refine fs_goto rfl rfl ?_
          try simp (disch := omega) only [nI_lit, pk_mul, nI_add, pk_sub, pk_rem4, nI_clamp, up2_o, up2_s, up2_i, cpV_o, cpV_i]
          have hU2 := (hM2.host hh).2.2.2.2.1
          have hM3 := hM2.pU (B := G.2.2.2.2.2.1) (a := G.1 7 + (G.2.2.2.2.2.1.length - G.1 7)) hh (FM.refl.up (j := 32) (i := h) (v := nI (G.1 7 + (G.2.2.2.2.2.1.length - G.1 7))) (by simp [own])) ⟨by rw [up2_o (by omega)]; exact hU2.1, up2_s, lB, by omega, by rw [up2_o (by omega)]; exact hU2.2.2.2.2⟩
          rw [show hoB (hoN G 7 (G.1 7 + (G.2.2.2.2.2.1.length - G.1 7))) G.2.2.2.2.2.1 = ho_put G from by unfold ho_put; rw [show min (G.1 7 + 27) G.2.2.2.2.2.1.length = G.1 7 + (G.2.2.2.2.2.1.length - G.1 7) by omega]] at hM3
          exact next _ _ _ hM3 (kp.trans (kp2.trans (KP.refl.up (by decide))))
        · have k0 : decide (G.1 7 = 0) = true := decide_eq_true (c_eq (b := 0) h130 rfl rfl)
          refine fs_iconst (pc2 := 134) rfl rfl rfl ?_
          refine fs_goto rfl rfl ?_
          refine fs_iconst (pc2 := 139) rfl rfl rfl ?_
          refine fs_iload_n (pc2 := 140) rfl rfl rfl rfl ?_
          first | simp (disch := omega) only [nI_lit, pk_mul, nI_add, pk_sub, pk_rem4, nI_clamp, up2_o, up2_s, up2_i, cpV_o, cpV_i, e31, e32, e1, e32b] | simp (disch := omega) only [nI_lit, pk_mul, nI_add, pk_sub, pk_rem4, nI_clamp, up2_o, up2_s, up2_i, cpV_o, cpV_i, e31, e32, e1] | skip
          refine fs_callv (pc2 := 143) rfl rfl rfl rfl ⟨rfl, rfl⟩ (Nat.le_of_ble_eq_true rfl) (Nat.le_of_ble_eq_true rfl) (Nat.le_of_ble_eq_true rfl) (fs_rcv rfl (by assumption)) (by first | exact m_post hm (mk := true) (ow := true) (m := (G.2.2.2.2.2.1.length - G.1 7)) h1 hW lp hB lB (by omega) (by omega)) (fun v9 sh9 V9 n9 hp9 => ?_)
          obtain ⟨ea9, eb9, ec9, hW2, hF2, kp2⟩ := hp9
          cases ea9
          obtain rfl := eb9.symm
          obtain rfl := ec9.symm
          have e32b : V9 (mb + 32) h = nI (G.1 7) := by rw [hF2 32 h (by simp [own] <;> omega)]; exact e32
          have ek : (true, true, (G.2.2.2.2.2.1.drop (G.1 7)).take (G.2.2.2.2.2.1.length - G.1 7)) = ho_pkt G := by unfold ho_pkt; rw [k0, ← take_min, km]
          rw [ek] at hW2
          have hM2 := hM.pWo (by omega) (by omega) hF2 hW2
          refine fs_aload_n (pc2 := 144) rfl rfl rfl rfl ?_
          refine fs_getr (pc2 := 147) rfl rfl rfl (by assumption) rfl ?_
          refine fs_iload_n (pc2 := 148) rfl rfl rfl rfl ?_
          refine fs_aload_n (pc2 := 149) rfl rfl rfl rfl ?_
          refine fs_getr (pc2 := 152) rfl rfl rfl (by assumption) rfl ?_
          refine fs_iload_n (pc2 := 153) rfl rfl rfl rfl ?_
          first | simp (disch := omega) only [nI_lit, pk_mul, nI_add, pk_sub, pk_rem4, nI_clamp, up2_o, up2_s, up2_i, cpV_o, cpV_i, e31, e32, e1, e32b] | simp (disch := omega) only [nI_lit, pk_mul, nI_add, pk_sub, pk_rem4, nI_clamp, up2_o, up2_s, up2_i, cpV_o, cpV_i, e31, e32, e1] | skip
          refine fs_iald (pc2 := 154) rfl rfl rfl (by assumption) (vp_in_nI (by omega) (by decide)) ?_
          refine fs_iload (pc2 := 156) rfl rfl rfl rfl ?_
          refine fs_iadd (pc2 := 157) rfl rfl rfl ?_
          first | simp (disch := omega) only [nI_lit, pk_mul, nI_add, pk_sub, pk_rem4, nI_clamp, up2_o, up2_s, up2_i, cpV_o, cpV_i, e31, e32, e1, e32b] | simp (disch := omega) only [nI_lit, pk_mul, nI_add, pk_sub, pk_rem4, nI_clamp, up2_o, up2_s, up2_i, cpV_o, cpV_i, e31, e32, e1] | skip
          refine fs_iast (pc2 := 158) rfl rfl rfl (by assumption) (vp_in_nI (by omega) (by decide)) ?_
          refine fs_goto rfl rfl ?_
          try simp (disch := omega) only [nI_lit, pk_mul, nI_add, pk_sub, pk_rem4, nI_clamp, up2_o, up2_s, up2_i, cpV_o, cpV_i]
          have hU2 := (hM2.host hh).2.2.2.2.1
          have hM3 := hM2.pU (B := G.2.2.2.2.2.1) (a := G.1 7 + (G.2.2.2.2.2.1.length - G.1 7)) hh (FM.refl.up (j := 32) (i := h) (v := nI (G.1 7 + (G.2.2.2.2.2.1.length - G.1 7))) (by simp [own])) ⟨by rw [up2_o (by omega)]; exact hU2.1, up2_s, lB, by omega, by rw [up2_o (by omega)]; exact hU2.2.2.2.2⟩
          rw [show hoB (hoN G 7 (G.1 7 + (G.2.2.2.2.2.1.length - G.1 7))) G.2.2.2.2.2.1 = ho_put G from by unfold ho_put; rw [show min (G.1 7 + 27) G.2.2.2.2.2.1.length = G.1 7 + (G.2.2.2.2.2.1.length - G.1 7) by omega]] at hM3
          exact next _ _ _ hM3 (kp.trans (kp2.trans (KP.refl.up (by decide))))
  · refine fs_iload_n (pc2 := 81) rfl rfl rfl rfl ?_
    try simp (disch := omega) only [nI_lit, pk_mul, nI_add, pk_sub, pk_rem4, nI_clamp, up2_o, up2_s, up2_i, cpV_o, cpV_i, e31, e32, e1]
    refine fs_if_eq (pc2 := 84) rfl rfl rfl (fun h81 => ?_) (fun h81 => ?_)
    · exact absurd h81 (by decide)
    · refine fs_aload_n (pc2 := 85) rfl rfl rfl rfl ?_
      refine fs_getr (pc2 := 88) rfl rfl rfl (by assumption) rfl ?_
      refine fs_iload_n (pc2 := 89) rfl rfl rfl rfl ?_
      try simp (disch := omega) only [nI_lit, pk_mul, nI_add, pk_sub, pk_rem4, nI_clamp, up2_o, up2_s, up2_i, cpV_o, cpV_i, e31, e32, e1]
      refine fs_iald (pc2 := 90) rfl rfl rfl (by assumption) (vp_in_nI (by omega) (by decide)) ?_
      refine fs_aload_n (pc2 := 91) rfl rfl rfl rfl ?_
      refine fs_getr (pc2 := 94) rfl rfl rfl (by assumption) rfl ?_
      refine fs_iload_n (pc2 := 95) rfl rfl rfl rfl ?_
      try simp (disch := omega) only [nI_lit, pk_mul, nI_add, pk_sub, pk_rem4, nI_clamp, up2_o, up2_s, up2_i, cpV_o, cpV_i, e31, e32, e1]
      refine fs_iald (pc2 := 96) rfl rfl rfl (by assumption) (vp_in_nI (by omega) (by decide)) ?_
      refine fs_isub (pc2 := 97) rfl rfl rfl ?_
      refine fs_istore_n (pc2 := 98) rfl rfl rfl (Nat.le_of_ble_eq_true rfl) ?_
      refine fs_iload_n (pc2 := 99) rfl rfl rfl rfl ?_
      refine fs_bipush (pc2 := 101) rfl rfl rfl ?_
      try simp (disch := omega) only [nI_lit, pk_mul, nI_add, pk_sub, pk_rem4, nI_clamp, up2_o, up2_s, up2_i, cpV_o, cpV_i, e31, e32, e1]
      refine fs_icmp_ge (pc2 := 104) rfl rfl rfl (fun h101 => ?_) (fun h101 => ?_)
      · have km : min (G.2.2.2.2.2.1.length - G.1 7) 27 = 27 := by have := c_nlt (b := 27) h101 rfl rfl; omega
        refine fs_bipush (pc2 := 110) rfl rfl rfl ?_
        refine fs_istore (pc2 := 112) rfl rfl rfl (Nat.le_of_ble_eq_true rfl) ?_
        refine fs_aload_n (pc2 := 113) rfl rfl rfl rfl ?_
        refine fs_iconst (pc2 := 114) rfl rfl rfl ?_
        refine fs_iload_n (pc2 := 115) rfl rfl rfl rfl ?_
        refine fs_isub (pc2 := 116) rfl rfl rfl ?_
        refine fs_aload_n (pc2 := 117) rfl rfl rfl rfl ?_
        refine fs_getr (pc2 := 120) rfl rfl rfl (by assumption) rfl ?_
        refine fs_iload_n (pc2 := 121) rfl rfl rfl rfl ?_
        try simp (disch := omega) only [nI_lit, pk_mul, nI_add, pk_sub, pk_rem4, nI_clamp, up2_o, up2_s, up2_i, cpV_o, cpV_i, e31, e32, e1]
        refine fs_iald (pc2 := 122) rfl rfl rfl (by assumption) (vp_in_nI (by omega) (by decide)) ?_
        refine fs_iload (pc2 := 124) rfl rfl rfl rfl ?_
        refine fs_aload_n (pc2 := 125) rfl rfl rfl rfl ?_
        refine fs_getr (pc2 := 128) rfl rfl rfl (by assumption) rfl ?_
        refine fs_iload_n (pc2 := 129) rfl rfl rfl rfl ?_
        try simp (disch := omega) only [nI_lit, pk_mul, nI_add, pk_sub, pk_rem4, nI_clamp, up2_o, up2_s, up2_i, cpV_o, cpV_i, e31, e32, e1]
        refine fs_iald (pc2 := 130) rfl rfl rfl (by assumption) (vp_in_nI (by omega) (by decide)) ?_
        try simp (disch := omega) only [nI_lit, pk_mul, nI_add, pk_sub, pk_rem4, nI_clamp, up2_o, up2_s, up2_i, cpV_o, cpV_i, e31, e32, e1]
        refine fs_if_ne (pc2 := 133) rfl rfl rfl (fun h130 => ?_) (fun h130 => ?_)
        · have k0 : decide (G.1 7 = 0) = false := decide_eq_false (c_ne (b := 0) h130 rfl rfl)
          refine fs_iconst (pc2 := 138) rfl rfl rfl ?_
          refine fs_iconst (pc2 := 139) rfl rfl rfl ?_
          refine fs_iload_n (pc2 := 140) rfl rfl rfl rfl ?_
          first | simp (disch := omega) only [nI_lit, pk_mul, nI_add, pk_sub, pk_rem4, nI_clamp, up2_o, up2_s, up2_i, cpV_o, cpV_i, e31, e32, e1, e32b] | simp (disch := omega) only [nI_lit, pk_mul, nI_add, pk_sub, pk_rem4, nI_clamp, up2_o, up2_s, up2_i, cpV_o, cpV_i, e31, e32, e1] | skip
          refine fs_callv (pc2 := 143) rfl rfl rfl rfl ⟨rfl, rfl⟩ (Nat.le_of_ble_eq_true rfl) (Nat.le_of_ble_eq_true rfl) (Nat.le_of_ble_eq_true rfl) (fs_rcv rfl (by assumption)) (by first | exact m_post hm (mk := false) (ow := true) (m := 27) h1 hW lp hB lB (by omega) (by omega)) (fun v9 sh9 V9 n9 hp9 => ?_)
          obtain ⟨ea9, eb9, ec9, hW2, hF2, kp2⟩ := hp9
          cases ea9
          obtain rfl := eb9.symm
          obtain rfl := ec9.symm
          have e32b : V9 (mb + 32) h = nI (G.1 7) := by rw [hF2 32 h (by simp [own] <;> omega)]; exact e32
          have ek : (false, true, (G.2.2.2.2.2.1.drop (G.1 7)).take 27) = ho_pkt G := by unfold ho_pkt; rw [k0, ← take_min, km]
          rw [ek] at hW2
          have hM2 := hM.pWo (by omega) (by omega) hF2 hW2
          refine fs_aload_n (pc2 := 144) rfl rfl rfl rfl ?_
          refine fs_getr (pc2 := 147) rfl rfl rfl (by assumption) rfl ?_
          refine fs_iload_n (pc2 := 148) rfl rfl rfl rfl ?_
          refine fs_aload_n (pc2 := 149) rfl rfl rfl rfl ?_
          refine fs_getr (pc2 := 152) rfl rfl rfl (by assumption) rfl ?_
          refine fs_iload_n (pc2 := 153) rfl rfl rfl rfl ?_
          first | simp (disch := omega) only [nI_lit, pk_mul, nI_add, pk_sub, pk_rem4, nI_clamp, up2_o, up2_s, up2_i, cpV_o, cpV_i, e31, e32, e1, e32b] | simp (disch := omega) only [nI_lit, pk_mul, nI_add, pk_sub, pk_rem4, nI_clamp, up2_o, up2_s, up2_i, cpV_o, cpV_i, e31, e32, e1] | skip
          refine fs_iald (pc2 := 154) rfl rfl rfl (by assumption) (vp_in_nI (by omega) (by decide)) ?_
          refine fs_iload (pc2 := 156) rfl rfl rfl rfl ?_
          refine fs_iadd (pc2 := 157) rfl rfl rfl ?_
          first | simp (disch := omega) only [nI_lit, pk_mul, nI_add, pk_sub, pk_rem4, nI_clamp, up2_o, up2_s, up2_i, cpV_o, cpV_i, e31, e32, e1, e32b] | simp (disch := omega) only [nI_lit, pk_mul, nI_add, pk_sub, pk_rem4, nI_clamp, up2_o, up2_s, up2_i, cpV_o, cpV_i, e31, e32, e1] | skip
          refine fs_iast (pc2 := 158) rfl rfl rfl (by assumption) (vp_in_nI (by omega) (by decide)) ?_
          refine fs_goto rfl rfl ?_
          try simp (disch := omega) only [nI_lit, pk_mul, nI_add, pk_sub, pk_rem4, nI_clamp, up2_o, up2_s, up2_i, cpV_o, cpV_i]
          have hU2 := (hM2.host hh).2.2.2.2.1
          have hM3 := hM2.pU (B := G.2.2.2.2.2.1) (a := G.1 7 + 27) hh (FM.refl.up (j := 32) (i := h) (v := nI (G.1 7 + 27)) (by simp [own])) ⟨by rw [up2_o (by omega)]; exact hU2.1, up2_s, lB, by omega, by rw [up2_o (by omega)]; exact hU2.2.2.2.2⟩
          rw [show hoB (hoN G 7 (G.1 7 + 27)) G.2.2.2.2.2.1 = ho_put G from by unfold ho_put; rw [show min (G.1 7 + 27) G.2.2.2.2.2.1.length = G.1 7 + 27 by omega]] at hM3
          exact next _ _ _ hM3 (kp.trans (kp2.trans (KP.refl.up (by decide))))
        · have k0 : decide (G.1 7 = 0) = true := decide_eq_true (c_eq (b := 0) h130 rfl rfl)
          refine fs_iconst (pc2 := 134) rfl rfl rfl ?_
          refine fs_goto rfl rfl ?_
          refine fs_iconst (pc2 := 139) rfl rfl rfl ?_
          refine fs_iload_n (pc2 := 140) rfl rfl rfl rfl ?_
          first | simp (disch := omega) only [nI_lit, pk_mul, nI_add, pk_sub, pk_rem4, nI_clamp, up2_o, up2_s, up2_i, cpV_o, cpV_i, e31, e32, e1, e32b] | simp (disch := omega) only [nI_lit, pk_mul, nI_add, pk_sub, pk_rem4, nI_clamp, up2_o, up2_s, up2_i, cpV_o, cpV_i, e31, e32, e1] | skip
          refine fs_callv (pc2 := 143) rfl rfl rfl rfl ⟨rfl, rfl⟩ (Nat.le_of_ble_eq_true rfl) (Nat.le_of_ble_eq_true rfl) (Nat.le_of_ble_eq_true rfl) (fs_rcv rfl (by assumption)) (by first | exact m_post hm (mk := true) (ow := true) (m := 27) h1 hW lp hB lB (by omega) (by omega)) (fun v9 sh9 V9 n9 hp9 => ?_)
          obtain ⟨ea9, eb9, ec9, hW2, hF2, kp2⟩ := hp9
          cases ea9
          obtain rfl := eb9.symm
          obtain rfl := ec9.symm
          have e32b : V9 (mb + 32) h = nI (G.1 7) := by rw [hF2 32 h (by simp [own] <;> omega)]; exact e32
          have ek : (true, true, (G.2.2.2.2.2.1.drop (G.1 7)).take 27) = ho_pkt G := by unfold ho_pkt; rw [k0, ← take_min, km]
          rw [ek] at hW2
          have hM2 := hM.pWo (by omega) (by omega) hF2 hW2
          refine fs_aload_n (pc2 := 144) rfl rfl rfl rfl ?_
          refine fs_getr (pc2 := 147) rfl rfl rfl (by assumption) rfl ?_
          refine fs_iload_n (pc2 := 148) rfl rfl rfl rfl ?_
          refine fs_aload_n (pc2 := 149) rfl rfl rfl rfl ?_
          refine fs_getr (pc2 := 152) rfl rfl rfl (by assumption) rfl ?_
          refine fs_iload_n (pc2 := 153) rfl rfl rfl rfl ?_
          first | simp (disch := omega) only [nI_lit, pk_mul, nI_add, pk_sub, pk_rem4, nI_clamp, up2_o, up2_s, up2_i, cpV_o, cpV_i, e31, e32, e1, e32b] | simp (disch := omega) only [nI_lit, pk_mul, nI_add, pk_sub, pk_rem4, nI_clamp, up2_o, up2_s, up2_i, cpV_o, cpV_i, e31, e32, e1] | skip
          refine fs_iald (pc2 := 154) rfl rfl rfl (by assumption) (vp_in_nI (by omega) (by decide)) ?_
          refine fs_iload (pc2 := 156) rfl rfl rfl rfl ?_
          refine fs_iadd (pc2 := 157) rfl rfl rfl ?_
          first | simp (disch := omega) only [nI_lit, pk_mul, nI_add, pk_sub, pk_rem4, nI_clamp, up2_o, up2_s, up2_i, cpV_o, cpV_i, e31, e32, e1, e32b] | simp (disch := omega) only [nI_lit, pk_mul, nI_add, pk_sub, pk_rem4, nI_clamp, up2_o, up2_s, up2_i, cpV_o, cpV_i, e31, e32, e1] | skip
          refine fs_iast (pc2 := 158) rfl rfl rfl (by assumption) (vp_in_nI (by omega) (by decide)) ?_
          refine fs_goto rfl rfl ?_
          try simp (disch := omega) only [nI_lit, pk_mul, nI_add, pk_sub, pk_rem4, nI_clamp, up2_o, up2_s, up2_i, cpV_o, cpV_i]
          have hU2 := (hM2.host hh).2.2.2.2.1
          have hM3 := hM2.pU (B := G.2.2.2.2.2.1) (a := G.1 7 + 27) hh (FM.refl.up (j := 32) (i := h) (v := nI (G.1 7 + 27)) (by simp [own])) ⟨by rw [up2_o (by omega)]; exact hU2.1, up2_s, lB, by omega, by rw [up2_o (by omega)]; exact hU2.2.2.2.2⟩
          rw [show hoB (hoN G 7 (G.1 7 + 27)) G.2.2.2.2.2.1 = ho_put G from by unfold ho_put; rw [show min (G.1 7 + 27) G.2.2.2.2.2.1.length = G.1 7 + 27 by omega]] at hM3
          exact next _ _ _ hM3 (kp.trans (kp2.trans (KP.refl.up (by decide))))
      · have km : min (G.2.2.2.2.2.1.length - G.1 7) 27 = G.2.2.2.2.2.1.length - G.1 7 := by have := c_lt (b := 27) h101 rfl rfl; omega
        refine fs_iload_n (pc2 := 105) rfl rfl rfl rfl ?_
        refine fs_goto rfl rfl ?_
        refine fs_istore (pc2 := 112) rfl rfl rfl (Nat.le_of_ble_eq_true rfl) ?_
        refine fs_aload_n (pc2 := 113) rfl rfl rfl rfl ?_
        refine fs_iconst (pc2 := 114) rfl rfl rfl ?_
        refine fs_iload_n (pc2 := 115) rfl rfl rfl rfl ?_
        refine fs_isub (pc2 := 116) rfl rfl rfl ?_
        refine fs_aload_n (pc2 := 117) rfl rfl rfl rfl ?_
        refine fs_getr (pc2 := 120) rfl rfl rfl (by assumption) rfl ?_
        refine fs_iload_n (pc2 := 121) rfl rfl rfl rfl ?_
        try simp (disch := omega) only [nI_lit, pk_mul, nI_add, pk_sub, pk_rem4, nI_clamp, up2_o, up2_s, up2_i, cpV_o, cpV_i, e31, e32, e1]
        refine fs_iald (pc2 := 122) rfl rfl rfl (by assumption) (vp_in_nI (by omega) (by decide)) ?_
        refine fs_iload (pc2 := 124) rfl rfl rfl rfl ?_
        refine fs_aload_n (pc2 := 125) rfl rfl rfl rfl ?_
        refine fs_getr (pc2 := 128) rfl rfl rfl (by assumption) rfl ?_
        refine fs_iload_n (pc2 := 129) rfl rfl rfl rfl ?_
        try simp (disch := omega) only [nI_lit, pk_mul, nI_add, pk_sub, pk_rem4, nI_clamp, up2_o, up2_s, up2_i, cpV_o, cpV_i, e31, e32, e1]
        refine fs_iald (pc2 := 130) rfl rfl rfl (by assumption) (vp_in_nI (by omega) (by decide)) ?_
        try simp (disch := omega) only [nI_lit, pk_mul, nI_add, pk_sub, pk_rem4, nI_clamp, up2_o, up2_s, up2_i, cpV_o, cpV_i, e31, e32, e1]
        refine fs_if_ne (pc2 := 133) rfl rfl rfl (fun h130 => ?_) (fun h130 => ?_)
        · have k0 : decide (G.1 7 = 0) = false := decide_eq_false (c_ne (b := 0) h130 rfl rfl)
          refine fs_iconst (pc2 := 138) rfl rfl rfl ?_
          refine fs_iconst (pc2 := 139) rfl rfl rfl ?_
          refine fs_iload_n (pc2 := 140) rfl rfl rfl rfl ?_
          first | simp (disch := omega) only [nI_lit, pk_mul, nI_add, pk_sub, pk_rem4, nI_clamp, up2_o, up2_s, up2_i, cpV_o, cpV_i, e31, e32, e1, e32b] | simp (disch := omega) only [nI_lit, pk_mul, nI_add, pk_sub, pk_rem4, nI_clamp, up2_o, up2_s, up2_i, cpV_o, cpV_i, e31, e32, e1] | skip
          refine fs_callv (pc2 := 143) rfl rfl rfl rfl ⟨rfl, rfl⟩ (Nat.le_of_ble_eq_true rfl) (Nat.le_of_ble_eq_true rfl) (Nat.le_of_ble_eq_true rfl) (fs_rcv rfl (by assumption)) (by first | exact m_post hm (mk := false) (ow := true) (m := (G.2.2.2.2.2.1.length - G.1 7)) h1 hW lp hB lB (by omega) (by omega)) (fun v9 sh9 V9 n9 hp9 => ?_)
          obtain ⟨ea9, eb9, ec9, hW2, hF2, kp2⟩ := hp9
          cases ea9
          obtain rfl := eb9.symm
          obtain rfl := ec9.symm
          have e32b : V9 (mb + 32) h = nI (G.1 7) := by rw [hF2 32 h (by simp [own] <;> omega)]; exact e32
          have ek : (false, true, (G.2.2.2.2.2.1.drop (G.1 7)).take (G.2.2.2.2.2.1.length - G.1 7)) = ho_pkt G := by unfold ho_pkt; rw [k0, ← take_min, km]
          rw [ek] at hW2
          have hM2 := hM.pWo (by omega) (by omega) hF2 hW2
          refine fs_aload_n (pc2 := 144) rfl rfl rfl rfl ?_
          refine fs_getr (pc2 := 147) rfl rfl rfl (by assumption) rfl ?_
          refine fs_iload_n (pc2 := 148) rfl rfl rfl rfl ?_
          refine fs_aload_n (pc2 := 149) rfl rfl rfl rfl ?_
          refine fs_getr (pc2 := 152) rfl rfl rfl (by assumption) rfl ?_
          refine fs_iload_n (pc2 := 153) rfl rfl rfl rfl ?_
          first | simp (disch := omega) only [nI_lit, pk_mul, nI_add, pk_sub, pk_rem4, nI_clamp, up2_o, up2_s, up2_i, cpV_o, cpV_i, e31, e32, e1, e32b] | simp (disch := omega) only [nI_lit, pk_mul, nI_add, pk_sub, pk_rem4, nI_clamp, up2_o, up2_s, up2_i, cpV_o, cpV_i, e31, e32, e1] | skip
          refine fs_iald (pc2 := 154) rfl rfl rfl (by assumption) (vp_in_nI (by omega) (by decide)) ?_
          refine fs_iload (pc2 := 156) rfl rfl rfl rfl ?_
          refine fs_iadd (pc2 := 157) rfl rfl rfl ?_
          first | simp (disch := omega) only [nI_lit, pk_mul, nI_add, pk_sub, pk_rem4, nI_clamp, up2_o, up2_s, up2_i, cpV_o, cpV_i, e31, e32, e1, e32b] | simp (disch := omega) only [nI_lit, pk_mul, nI_add, pk_sub, pk_rem4, nI_clamp, up2_o, up2_s, up2_i, cpV_o, cpV_i, e31, e32, e1] | skip
          refine fs_iast (pc2 := 158) rfl rfl rfl (by assumption) (vp_in_nI (by omega) (by decide)) ?_
          refine fs_goto rfl rfl ?_
          try simp (disch := omega) only [nI_lit, pk_mul, nI_add, pk_sub, pk_rem4, nI_clamp, up2_o, up2_s, up2_i, cpV_o, cpV_i]
          have hU2 := (hM2.host hh).2.2.2.2.1
          have hM3 := hM2.pU (B := G.2.2.2.2.2.1) (a := G.1 7 + (G.2.2.2.2.2.1.length - G.1 7)) hh (FM.refl.up (j := 32) (i := h) (v := nI (G.1 7 + (G.2.2.2.2.2.1.length - G.1 7))) (by simp [own])) ⟨by rw [up2_o (by omega)]; exact hU2.1, up2_s, lB, by omega, by rw [up2_o (by omega)]; exact hU2.2.2.2.2⟩
          rw [show hoB (hoN G 7 (G.1 7 + (G.2.2.2.2.2.1.length - G.1 7))) G.2.2.2.2.2.1 = ho_put G from by unfold ho_put; rw [show min (G.1 7 + 27) G.2.2.2.2.2.1.length = G.1 7 + (G.2.2.2.2.2.1.length - G.1 7) by omega]] at hM3
          exact next _ _ _ hM3 (kp.trans (kp2.trans (KP.refl.up (by decide))))
        · have k0 : decide (G.1 7 = 0) = true := decide_eq_true (c_eq (b := 0) h130 rfl rfl)
          refine fs_iconst (pc2 := 134) rfl rfl rfl ?_
          refine fs_goto rfl rfl ?_
          refine fs_iconst (pc2 := 139) rfl rfl rfl ?_
          refine fs_iload_n (pc2 := 140) rfl rfl rfl rfl ?_
          first | simp (disch := omega) only [nI_lit, pk_mul, nI_add, pk_sub, pk_rem4, nI_clamp, up2_o, up2_s, up2_i, cpV_o, cpV_i, e31, e32, e1, e32b] | simp (disch := omega) only [nI_lit, pk_mul, nI_add, pk_sub, pk_rem4, nI_clamp, up2_o, up2_s, up2_i, cpV_o, cpV_i, e31, e32, e1] | skip
          refine fs_callv (pc2 := 143) rfl rfl rfl rfl ⟨rfl, rfl⟩ (Nat.le_of_ble_eq_true rfl) (Nat.le_of_ble_eq_true rfl) (Nat.le_of_ble_eq_true rfl) (fs_rcv rfl (by assumption)) (by first | exact m_post hm (mk := true) (ow := true) (m := (G.2.2.2.2.2.1.length - G.1 7)) h1 hW lp hB lB (by omega) (by omega)) (fun v9 sh9 V9 n9 hp9 => ?_)
          obtain ⟨ea9, eb9, ec9, hW2, hF2, kp2⟩ := hp9
          cases ea9
          obtain rfl := eb9.symm
          obtain rfl := ec9.symm
          have e32b : V9 (mb + 32) h = nI (G.1 7) := by rw [hF2 32 h (by simp [own] <;> omega)]; exact e32
          have ek : (true, true, (G.2.2.2.2.2.1.drop (G.1 7)).take (G.2.2.2.2.2.1.length - G.1 7)) = ho_pkt G := by unfold ho_pkt; rw [k0, ← take_min, km]
          rw [ek] at hW2
          have hM2 := hM.pWo (by omega) (by omega) hF2 hW2
          refine fs_aload_n (pc2 := 144) rfl rfl rfl rfl ?_
          refine fs_getr (pc2 := 147) rfl rfl rfl (by assumption) rfl ?_
          refine fs_iload_n (pc2 := 148) rfl rfl rfl rfl ?_
          refine fs_aload_n (pc2 := 149) rfl rfl rfl rfl ?_
          refine fs_getr (pc2 := 152) rfl rfl rfl (by assumption) rfl ?_
          refine fs_iload_n (pc2 := 153) rfl rfl rfl rfl ?_
          first | simp (disch := omega) only [nI_lit, pk_mul, nI_add, pk_sub, pk_rem4, nI_clamp, up2_o, up2_s, up2_i, cpV_o, cpV_i, e31, e32, e1, e32b] | simp (disch := omega) only [nI_lit, pk_mul, nI_add, pk_sub, pk_rem4, nI_clamp, up2_o, up2_s, up2_i, cpV_o, cpV_i, e31, e32, e1] | skip
          refine fs_iald (pc2 := 154) rfl rfl rfl (by assumption) (vp_in_nI (by omega) (by decide)) ?_
          refine fs_iload (pc2 := 156) rfl rfl rfl rfl ?_
          refine fs_iadd (pc2 := 157) rfl rfl rfl ?_
          first | simp (disch := omega) only [nI_lit, pk_mul, nI_add, pk_sub, pk_rem4, nI_clamp, up2_o, up2_s, up2_i, cpV_o, cpV_i, e31, e32, e1, e32b] | simp (disch := omega) only [nI_lit, pk_mul, nI_add, pk_sub, pk_rem4, nI_clamp, up2_o, up2_s, up2_i, cpV_o, cpV_i, e31, e32, e1] | skip
          refine fs_iast (pc2 := 158) rfl rfl rfl (by assumption) (vp_in_nI (by omega) (by decide)) ?_
          refine fs_goto rfl rfl ?_
          try simp (disch := omega) only [nI_lit, pk_mul, nI_add, pk_sub, pk_rem4, nI_clamp, up2_o, up2_s, up2_i, cpV_o, cpV_i]
          have hU2 := (hM2.host hh).2.2.2.2.1
          have hM3 := hM2.pU (B := G.2.2.2.2.2.1) (a := G.1 7 + (G.2.2.2.2.2.1.length - G.1 7)) hh (FM.refl.up (j := 32) (i := h) (v := nI (G.1 7 + (G.2.2.2.2.2.1.length - G.1 7))) (by simp [own])) ⟨by rw [up2_o (by omega)]; exact hU2.1, up2_s, lB, by omega, by rw [up2_o (by omega)]; exact hU2.2.2.2.2⟩
          rw [show hoB (hoN G 7 (G.1 7 + (G.2.2.2.2.2.1.length - G.1 7))) G.2.2.2.2.2.1 = ho_put G from by unfold ho_put; rw [show min (G.1 7 + 27) G.2.2.2.2.2.1.length = G.1 7 + (G.2.2.2.2.2.1.length - G.1 7) by omega]] at hM3
          exact next _ _ _ hM3 (kp.trans (kp2.trans (KP.refl.up (by decide))))
set_option maxRecDepth 100000 in
set_option maxHeartbeats 4000000 in
theorem m_sendAll_loop (hm : isMo sh mb) (hh : h < 2) (h1 : h + ho = 1) {Ret : ev_P} : ∀ (f : Nat) (V1 : fl_V) (H : Ho) (ps : List Pkt) (T2 : List (Nat × Value)), f + sents ps = 4 → SI H → Mo V1 mb T S (va_up (va_up HH ho (hoW O ps)) h H) → KP mb V0 V1 → (T2 = [] ∨ ∃ q r, T2 = [(3, .int q), (4, .int r)]) → (∀ (v : Option Value) (sh' : fl_S) (V' : fl_V) (n' : Nat), (fun v sh' V' n' => v = none ∧ sh' = sh ∧ n' = n ∧ Mo V' mb T S (va_up (va_up HH ho (hoW O (ho_send f H ps).2)) h (ho_send f H ps).1) ∧ KP mb V0 V') v sh' V' n' → Ret v (fl_f cy z0 sh' V') (z0 + n')) → fl_R cy z0 (ev_M cy ext (d + 3)) 7 0 0 5 none kc_X7_sendAll Ret 2 ([(0, .ref (z0 + mb)), (1, .int (nI h)), (2, .int (nI 1))] ++ T2) [] sh V1 n 0 0 := by
  have m0 := hm.1
  have a26 : sh (mb + 26) = some (.inl (1, 2, none)) := hm.2 25 (1, 2) rfl
  have a31 : sh (mb + 31) = some (.inl (1, 2, none)) := hm.2 30 (1, 2) rfl
  have a32 : sh (mb + 32) = some (.inl (1, 2, none)) := hm.2 31 (1, 2) rfl
  have a34 : sh (mb + 34) = some (.inl (1, 2, none)) := hm.2 33 (1, 2) rfl
  have e1 : 1 - h = ho := by omega
  intro f
  induction f with
  | zero =>
    intro V1 H ps T2 hf hS hM kp hT2 hP
    have hW := hM.oW (by omega) (by omega)
    have e4 : 4 - sents ps = 0 := by omega
    rcases hT2 with rfl | ⟨q3, r3, rfl⟩
    · refine fs_iload_n (pc2 := 3) rfl rfl rfl rfl ?_
      try simp (disch := omega) only [nI_lit, pk_mul, nI_add, pk_sub, pk_rem4, nI_clamp, up2_o, up2_s, up2_i, cpV_o, cpV_i]
      refine fs_if_eq (pc2 := 6) rfl rfl rfl (fun h3 => ?_) (fun h3 => ?_)
      · exact absurd h3 (by decide)
      · refine fs_aload_n (pc2 := 7) rfl rfl rfl rfl ?_
        refine fs_iload_n (pc2 := 8) rfl rfl rfl rfl ?_
        try simp (disch := omega) only [nI_lit, pk_mul, nI_add, pk_sub, pk_rem4, nI_clamp, up2_o, up2_s, up2_i, cpV_o, cpV_i]
        refine fs_callv (pc2 := 11) rfl rfl rfl rfl ⟨rfl, rfl⟩ (Nat.le_of_ble_eq_true rfl) (Nat.le_of_ble_eq_true rfl) (Nat.le_of_ble_eq_true rfl) (fs_rcv rfl (by assumption)) (m_buffersOf hm h1 hW (by omega)) (fun v9 sh9 V9 n9 hp9 => ?_)
        obtain ⟨ea9, eb9, ec9, hv9⟩ := hp9
        cases ea9
        obtain rfl := eb9.symm
        obtain rfl := ec9.symm
        cases hv9
        rw [e4]
        try simp (disch := omega) only [nI_lit, pk_mul, nI_add, pk_sub, pk_rem4, nI_clamp, up2_o, up2_s, up2_i, cpV_o, cpV_i]
        refine fs_if_le (pc2 := 14) rfl rfl rfl (fun h11 => ?_) (fun h11 => ?_)
        · try simp (disch := omega) only [nI_lit, pk_mul, nI_add, pk_sub, pk_rem4, nI_clamp, up2_o, up2_s, up2_i, cpV_o, cpV_i]
          refine fs_ret rfl rfl ?_
          exact hP _ _ _ _ ⟨rfl, rfl, rfl, hM, kp⟩
        · exact absurd (by decide) h11
    · refine fs_iload_n (pc2 := 3) rfl rfl rfl rfl ?_
      try simp (disch := omega) only [nI_lit, pk_mul, nI_add, pk_sub, pk_rem4, nI_clamp, up2_o, up2_s, up2_i, cpV_o, cpV_i]
      refine fs_if_eq (pc2 := 6) rfl rfl rfl (fun h3 => ?_) (fun h3 => ?_)
      · exact absurd h3 (by decide)
      · refine fs_aload_n (pc2 := 7) rfl rfl rfl rfl ?_
        refine fs_iload_n (pc2 := 8) rfl rfl rfl rfl ?_
        try simp (disch := omega) only [nI_lit, pk_mul, nI_add, pk_sub, pk_rem4, nI_clamp, up2_o, up2_s, up2_i, cpV_o, cpV_i]
        refine fs_callv (pc2 := 11) rfl rfl rfl rfl ⟨rfl, rfl⟩ (Nat.le_of_ble_eq_true rfl) (Nat.le_of_ble_eq_true rfl) (Nat.le_of_ble_eq_true rfl) (fs_rcv rfl (by assumption)) (m_buffersOf hm h1 hW (by omega)) (fun v9 sh9 V9 n9 hp9 => ?_)
        obtain ⟨ea9, eb9, ec9, hv9⟩ := hp9
        cases ea9
        obtain rfl := eb9.symm
        obtain rfl := ec9.symm
        cases hv9
        rw [e4]
        try simp (disch := omega) only [nI_lit, pk_mul, nI_add, pk_sub, pk_rem4, nI_clamp, up2_o, up2_s, up2_i, cpV_o, cpV_i]
        refine fs_if_le (pc2 := 14) rfl rfl rfl (fun h11 => ?_) (fun h11 => ?_)
        · try simp (disch := omega) only [nI_lit, pk_mul, nI_add, pk_sub, pk_rem4, nI_clamp, up2_o, up2_s, up2_i, cpV_o, cpV_i]
          refine fs_ret rfl rfl ?_
          exact hP _ _ _ _ ⟨rfl, rfl, rfl, hM, kp⟩
        · exact absurd (by decide) h11
  | succ f ih =>
    intro V1 H ps T2 hf hS hM kp hT2 hP
    have hW := hM.oW (by omega) (by omega)
    have e34 := hW.1
    have lW := hW.2.1
    have e4 : 4 - sents ps = f + 1 := by omega
    obtain ⟨e31, e32, lB, aB, hB⟩ := id (hM.host hh).2.2.2.2.1
    obtain ⟨fs, e25, e26, l1, l2, q5⟩ := id (hM.host hh).2.2.2.1
    unfold ho_send at hP
    have lb : (H.1 7 < H.2.2.2.2.2.1.length) → ho_unit H = (true, H) := fun q => by unfold ho_unit; rw [if_pos q]
    have go80 : ps.length < 32 → (ho_unit H).1 = true → ∀ (V2 : fl_V) (T3 : List (Nat × Value)), Mo V2 mb T S (va_up (va_up HH ho (hoW O ps)) h (ho_unit H).2) → KP mb V0 V2 → (T3 = [] ∨ (∃ q, T3 = [(3, .int q)]) ∨ ∃ q r, T3 = [(3, .int q), (4, .int r)]) → fl_R cy z0 (ev_M cy ext (d + 3)) 7 0 0 5 none kc_X7_sendAll Ret 80 ([(0, .ref (z0 + mb)), (1, .int (nI h)), (2, .int (nI 1))] ++ T3) [] sh V2 n 0 0 := by
      intro lp hu V2 T3 hM2 kp2 hT3
      refine m_sendAll_80 hm hh h1 hM2 kp2 (ho_unit_lt hS hu) lp hT3 (fun V3 q r hM3 kp3 => ?_)
      have hs2 : sents (ps ++ [ho_pkt (ho_unit H).2]) = sents ps + 1 := by
        unfold sents; rw [List.filter_append, List.length_append]; rfl
      rw [if_neg (by omega), if_neg (by rw [hu]; decide)] at hP
      exact ih V3 _ _ [(3, .int q), (4, .int r)] (by omega) hS.unit.put hM3 kp3 (Or.inr ⟨q, r, rfl⟩) hP
    rcases hT2 with rfl | ⟨q3, r3, rfl⟩
    · refine fs_iload_n (pc2 := 3) rfl rfl rfl rfl ?_
      try simp (disch := omega) only [nI_lit, pk_mul, nI_add, pk_sub, pk_rem4, nI_clamp, up2_o, up2_s, up2_i, cpV_o, cpV_i, e34, e31, e32, e1, e26]
      refine fs_if_eq (pc2 := 6) rfl rfl rfl (fun h3 => ?_) (fun h3 => ?_)
      · exact absurd h3 (by decide)
      · refine fs_aload_n (pc2 := 7) rfl rfl rfl rfl ?_
        refine fs_iload_n (pc2 := 8) rfl rfl rfl rfl ?_
        try simp (disch := omega) only [nI_lit, pk_mul, nI_add, pk_sub, pk_rem4, nI_clamp, up2_o, up2_s, up2_i, cpV_o, cpV_i, e34, e31, e32, e1, e26]
        refine fs_callv (pc2 := 11) rfl rfl rfl rfl ⟨rfl, rfl⟩ (Nat.le_of_ble_eq_true rfl) (Nat.le_of_ble_eq_true rfl) (Nat.le_of_ble_eq_true rfl) (fs_rcv rfl (by assumption)) (m_buffersOf hm h1 hW (by omega)) (fun v9 sh9 V9 n9 hp9 => ?_)
        obtain ⟨ea9, eb9, ec9, hv9⟩ := hp9
        cases ea9
        obtain rfl := eb9.symm
        obtain rfl := ec9.symm
        cases hv9
        rw [e4]
        try simp (disch := omega) only [nI_lit, pk_mul, nI_add, pk_sub, pk_rem4, nI_clamp, up2_o, up2_s, up2_i, cpV_o, cpV_i, e34, e31, e32, e1, e26]
        refine fs_if_le (pc2 := 14) rfl rfl rfl (fun h11 => ?_) (fun h11 => ?_)
        · exact absurd h11 (nI_nle (by omega) (by omega))
        · refine fs_aload_n (pc2 := 15) rfl rfl rfl rfl ?_
          refine fs_getr (pc2 := 18) rfl rfl rfl (by assumption) rfl ?_
          refine fs_iconst (pc2 := 19) rfl rfl rfl ?_
          refine fs_iload_n (pc2 := 20) rfl rfl rfl rfl ?_
          refine fs_isub (pc2 := 21) rfl rfl rfl ?_
          try simp (disch := omega) only [nI_lit, pk_mul, nI_add, pk_sub, pk_rem4, nI_clamp, up2_o, up2_s, up2_i, cpV_o, cpV_i, e34, e31, e32, e1, e26]
          refine fs_iald (pc2 := 22) rfl rfl rfl (by assumption) (vp_in_nI (by omega) (by decide)) ?_
          refine fs_bipush (pc2 := 24) rfl rfl rfl ?_
          try simp (disch := omega) only [nI_lit, pk_mul, nI_add, pk_sub, pk_rem4, nI_clamp, up2_o, up2_s, up2_i, cpV_o, cpV_i, e34, e31, e32, e1, e26]
          refine fs_icmp_ge (pc2 := 27) rfl rfl rfl (fun h24 => ?_) (fun h24 => ?_)
          · have k24 : 32 ≤ ps.length := c_nlt h24 rfl rfl
            rw [if_pos k24] at hP
            try simp (disch := omega) only [nI_lit, pk_mul, nI_add, pk_sub, pk_rem4, nI_clamp, up2_o, up2_s, up2_i, cpV_o, cpV_i, e34, e31, e32, e1, e26]
            refine fs_ret rfl rfl ?_
            exact hP _ _ _ _ ⟨rfl, rfl, rfl, hM, kp⟩
          · have k24 : ps.length < 32 := c_lt h24 rfl rfl
            refine fs_aload_n (pc2 := 28) rfl rfl rfl rfl ?_
            refine fs_getr (pc2 := 31) rfl rfl rfl (by assumption) rfl ?_
            refine fs_iload_n (pc2 := 32) rfl rfl rfl rfl ?_
            try simp (disch := omega) only [nI_lit, pk_mul, nI_add, pk_sub, pk_rem4, nI_clamp, up2_o, up2_s, up2_i, cpV_o, cpV_i, e34, e31, e32, e1, e26]
            refine fs_iald (pc2 := 33) rfl rfl rfl (by assumption) (vp_in_nI (by omega) (by decide)) ?_
            refine fs_aload_n (pc2 := 34) rfl rfl rfl rfl ?_
            refine fs_getr (pc2 := 37) rfl rfl rfl (by assumption) rfl ?_
            refine fs_iload_n (pc2 := 38) rfl rfl rfl rfl ?_
            try simp (disch := omega) only [nI_lit, pk_mul, nI_add, pk_sub, pk_rem4, nI_clamp, up2_o, up2_s, up2_i, cpV_o, cpV_i, e34, e31, e32, e1, e26]
            refine fs_iald (pc2 := 39) rfl rfl rfl (by assumption) (vp_in_nI (by omega) (by decide)) ?_
            try simp (disch := omega) only [nI_lit, pk_mul, nI_add, pk_sub, pk_rem4, nI_clamp, up2_o, up2_s, up2_i, cpV_o, cpV_i, e34, e31, e32, e1, e26]
            refine fs_icmp_ne (pc2 := 42) rfl rfl rfl (fun h39 => ?_) (fun h39 => ?_)
            · have k39 : H.1 7 ≠ H.2.2.2.2.2.1.length := c_ne h39 rfl rfl
              have hu := lb (by omega)
              exact go80 k24 (by rw [hu]) V1 _ (by rw [hu]; exact hM) kp (by first | exact Or.inl rfl | exact Or.inr (Or.inr ⟨_, _, rfl⟩))
            · have k39 : H.1 7 = H.2.2.2.2.2.1.length := c_eq h39 rfl rfl
              refine fs_aload_n (pc2 := 43) rfl rfl rfl rfl ?_
              refine fs_iload_n (pc2 := 44) rfl rfl rfl rfl ?_
              try simp (disch := omega) only [nI_lit, pk_mul, nI_add, pk_sub, pk_rem4, nI_clamp, up2_o, up2_s, up2_i, cpV_o, cpV_i, e34, e31, e32, e1, e26]
              refine fs_callv (pc2 := 47) rfl rfl rfl rfl ⟨rfl, rfl⟩ (Nat.le_of_ble_eq_true rfl) (Nat.le_of_ble_eq_true rfl) (Nat.le_of_ble_eq_true rfl) (fs_rcv rfl (by assumption)) (m_nextChannel hm hM hh hS.2.1) (fun v9 sh9 V9 n9 hp9 => ?_)
              obtain ⟨ea9, eb9, ec9, hv9⟩ := hp9
              cases ea9
              obtain rfl := eb9.symm
              obtain rfl := ec9.symm
              cases hv9
              refine fs_istore_n (pc2 := 48) rfl rfl rfl (Nat.le_of_ble_eq_true rfl) ?_
              refine fs_aload_n (pc2 := 49) rfl rfl rfl rfl ?_
              refine fs_getr (pc2 := 52) rfl rfl rfl (by assumption) rfl ?_
              refine fs_iload_n (pc2 := 53) rfl rfl rfl rfl ?_
              try simp (disch := omega) only [nI_lit, pk_mul, nI_add, pk_sub, pk_rem4, nI_clamp, up2_o, up2_s, up2_i, cpV_o, cpV_i, e34, e31, e32, e1, e26]
              refine fs_iald (pc2 := 54) rfl rfl rfl (by assumption) (vp_in_nI (by omega) (by decide)) ?_
              try simp (disch := omega) only [nI_lit, pk_mul, nI_add, pk_sub, pk_rem4, nI_clamp, up2_o, up2_s, up2_i, cpV_o, cpV_i, e34, e31, e32, e1, e26]
              refine fs_if_le (pc2 := 57) rfl rfl rfl (fun h54 => ?_) (fun h54 => ?_)
              · have k54 : H.2.2.2.2.1.length ≤ 0 := c_le (b := 0) h54 rfl rfl
                have hQ : H.2.2.2.2.1 = [] := List.eq_nil_of_length_eq_zero (by omega)
                refine fs_iload_n (pc2 := 66) rfl rfl rfl rfl ?_
                try simp (disch := omega) only [nI_lit, pk_mul, nI_add, pk_sub, pk_rem4, nI_clamp, up2_o, up2_s, up2_i, cpV_o, cpV_i, e34, e31, e32, e1, e26]
                refine fs_if_lt (pc2 := 69) rfl rfl rfl (fun h66 => ?_) (fun h66 => ?_)
                · have hnx : ho_next H = none := by
                    cases hn : ho_next H with
                    | none => rfl
                    | some i =>
                      rw [hn] at h66
                      exact absurd h66 (nI_nlt (b := 0) (by omega) (by omega))
                  have hu : ho_unit H = (false, H) := by unfold ho_unit; rw [if_neg (by omega), hQ]; dsimp only; rw [hnx]
                  refine fs_iconst (pc2 := 79) rfl rfl rfl ?_
                  refine fs_istore_n (pc2 := 80) rfl rfl rfl (Nat.le_of_ble_eq_true rfl) ?_
                  refine fs_iload_n (pc2 := 81) rfl rfl rfl rfl ?_
                  try simp (disch := omega) only [nI_lit, pk_mul, nI_add, pk_sub, pk_rem4, nI_clamp, up2_o, up2_s, up2_i, cpV_o, cpV_i]
                  try simp (disch := omega) only [nI_lit, pk_mul, nI_add, pk_sub, pk_rem4, nI_clamp, up2_o, up2_s, up2_i, cpV_o, cpV_i, e34, e31, e32, e1, e26]
                  refine fs_if_eq (pc2 := 84) rfl rfl rfl (fun h81 => ?_) (fun h81 => ?_)
                  · refine fs_iload_n (pc2 := 3) rfl rfl rfl rfl ?_
                    try simp (disch := omega) only [nI_lit, pk_mul, nI_add, pk_sub, pk_rem4, nI_clamp, up2_o, up2_s, up2_i, cpV_o, cpV_i]
                    try simp (disch := omega) only [nI_lit, pk_mul, nI_add, pk_sub, pk_rem4, nI_clamp, up2_o, up2_s, up2_i, cpV_o, cpV_i, e34, e31, e32, e1, e26]
                    refine fs_if_eq (pc2 := 6) rfl rfl rfl (fun h3 => ?_) (fun h3 => ?_)
                    · try simp (disch := omega) only [nI_lit, pk_mul, nI_add, pk_sub, pk_rem4, nI_clamp, up2_o, up2_s, up2_i, cpV_o, cpV_i]
                      try simp (disch := omega) only [nI_lit, pk_mul, nI_add, pk_sub, pk_rem4, nI_clamp, up2_o, up2_s, up2_i, cpV_o, cpV_i, e34, e31, e32, e1, e26]
                      refine fs_ret rfl rfl ?_
                      rw [if_neg (by omega), if_pos (by rw [hu]), hu] at hP
                      exact hP _ _ _ _ ⟨rfl, rfl, rfl, hM, kp⟩
                    · exact absurd (by decide) h3
                  · exact absurd (by decide) h81
                · obtain ⟨i, hnx⟩ : ∃ i, ho_next H = some i := by
                    cases hn : ho_next H with
                    | none => rw [hn] at h66; exact absurd (show (-nI 1 : Int32) < 0 by decide) h66
                    | some i => exact ⟨i, rfl⟩
                  have hu : ho_unit H = (true, ho_bseg H ((H.1 10 + i) % 4)) := by unfold ho_unit; rw [if_neg (by omega), hQ]; dsimp only; rw [hnx]
                  refine fs_aload_n (pc2 := 70) rfl rfl rfl rfl ?_
                  refine fs_iload_n (pc2 := 71) rfl rfl rfl rfl ?_
                  refine fs_iload_n (pc2 := 72) rfl rfl rfl rfl ?_
                  try simp (disch := omega) only [nI_lit, pk_mul, nI_add, pk_sub, pk_rem4, nI_clamp, up2_o, up2_s, up2_i, cpV_o, cpV_i, e34, e31, e32, e1, e26]
                  refine fs_callv (pc2 := 75) rfl rfl rfl rfl ⟨rfl, rfl⟩ (Nat.le_of_ble_eq_true rfl) (Nat.le_of_ble_eq_true rfl) (Nat.le_of_ble_eq_true rfl) (fs_rcv rfl (by assumption)) (by rw [hnx]; exact m_beginSegment hm hM hh (by omega) hS (first4_lt hnx).2) (fun v9 sh9 V9 n9 hp9 => ?_)
                  obtain ⟨ea9, eb9, ec9, hM2, kp2⟩ := hp9
                  cases ea9
                  obtain rfl := eb9.symm
                  obtain rfl := ec9.symm
                  refine fs_goto rfl rfl ?_
                  exact go80 k24 (by rw [hu]) _ _ (by rw [hu]; exact hM2) (kp.trans kp2) (by first | exact Or.inr (Or.inl ⟨_, rfl⟩) | exact Or.inr (Or.inr ⟨_, _, rfl⟩))
              · have k54 : 0 < H.2.2.2.2.1.length := c_nle (b := 0) h54 rfl rfl
                obtain ⟨x, qs, hQ⟩ : ∃ x qs, H.2.2.2.2.1 = x :: qs := by
                  cases htx : H.2.2.2.2.1 with
                  | nil => rw [htx] at k54; simp at k54
                  | cons x qs => exact ⟨x, qs, rfl⟩
                have hu : ho_unit H = (true, ho_bsig H x qs) := by unfold ho_unit; rw [if_neg (by omega), hQ]
                refine fs_aload_n (pc2 := 58) rfl rfl rfl rfl ?_
                refine fs_iload_n (pc2 := 59) rfl rfl rfl rfl ?_
                try simp (disch := omega) only [nI_lit, pk_mul, nI_add, pk_sub, pk_rem4, nI_clamp, up2_o, up2_s, up2_i, cpV_o, cpV_i, e34, e31, e32, e1, e26]
                refine fs_callv (pc2 := 62) rfl rfl rfl rfl ⟨rfl, rfl⟩ (Nat.le_of_ble_eq_true rfl) (Nat.le_of_ble_eq_true rfl) (Nat.le_of_ble_eq_true rfl) (fs_rcv rfl (by assumption)) (m_beginSignal hm hM hh hQ) (fun v9 sh9 V9 n9 hp9 => ?_)
                obtain ⟨ea9, eb9, ec9, hM2, kp2⟩ := hp9
                cases ea9
                obtain rfl := eb9.symm
                obtain rfl := ec9.symm
                refine fs_goto rfl rfl ?_
                exact go80 k24 (by rw [hu]) _ _ (by rw [hu]; exact hM2) (kp.trans kp2) (by first | exact Or.inr (Or.inl ⟨_, rfl⟩) | exact Or.inr (Or.inr ⟨_, _, rfl⟩))
    · refine fs_iload_n (pc2 := 3) rfl rfl rfl rfl ?_
      try simp (disch := omega) only [nI_lit, pk_mul, nI_add, pk_sub, pk_rem4, nI_clamp, up2_o, up2_s, up2_i, cpV_o, cpV_i, e34, e31, e32, e1, e26]
      refine fs_if_eq (pc2 := 6) rfl rfl rfl (fun h3 => ?_) (fun h3 => ?_)
      · exact absurd h3 (by decide)
      · refine fs_aload_n (pc2 := 7) rfl rfl rfl rfl ?_
        refine fs_iload_n (pc2 := 8) rfl rfl rfl rfl ?_
        try simp (disch := omega) only [nI_lit, pk_mul, nI_add, pk_sub, pk_rem4, nI_clamp, up2_o, up2_s, up2_i, cpV_o, cpV_i, e34, e31, e32, e1, e26]
        refine fs_callv (pc2 := 11) rfl rfl rfl rfl ⟨rfl, rfl⟩ (Nat.le_of_ble_eq_true rfl) (Nat.le_of_ble_eq_true rfl) (Nat.le_of_ble_eq_true rfl) (fs_rcv rfl (by assumption)) (m_buffersOf hm h1 hW (by omega)) (fun v9 sh9 V9 n9 hp9 => ?_)
        obtain ⟨ea9, eb9, ec9, hv9⟩ := hp9
        cases ea9
        obtain rfl := eb9.symm
        obtain rfl := ec9.symm
        cases hv9
        rw [e4]
        try simp (disch := omega) only [nI_lit, pk_mul, nI_add, pk_sub, pk_rem4, nI_clamp, up2_o, up2_s, up2_i, cpV_o, cpV_i, e34, e31, e32, e1, e26]
        refine fs_if_le (pc2 := 14) rfl rfl rfl (fun h11 => ?_) (fun h11 => ?_)
        · exact absurd h11 (nI_nle (by omega) (by omega))
        · refine fs_aload_n (pc2 := 15) rfl rfl rfl rfl ?_
          refine fs_getr (pc2 := 18) rfl rfl rfl (by assumption) rfl ?_
          refine fs_iconst (pc2 := 19) rfl rfl rfl ?_
          refine fs_iload_n (pc2 := 20) rfl rfl rfl rfl ?_
          refine fs_isub (pc2 := 21) rfl rfl rfl ?_
          try simp (disch := omega) only [nI_lit, pk_mul, nI_add, pk_sub, pk_rem4, nI_clamp, up2_o, up2_s, up2_i, cpV_o, cpV_i, e34, e31, e32, e1, e26]
          refine fs_iald (pc2 := 22) rfl rfl rfl (by assumption) (vp_in_nI (by omega) (by decide)) ?_
          refine fs_bipush (pc2 := 24) rfl rfl rfl ?_
          try simp (disch := omega) only [nI_lit, pk_mul, nI_add, pk_sub, pk_rem4, nI_clamp, up2_o, up2_s, up2_i, cpV_o, cpV_i, e34, e31, e32, e1, e26]
          refine fs_icmp_ge (pc2 := 27) rfl rfl rfl (fun h24 => ?_) (fun h24 => ?_)
          · have k24 : 32 ≤ ps.length := c_nlt h24 rfl rfl
            rw [if_pos k24] at hP
            try simp (disch := omega) only [nI_lit, pk_mul, nI_add, pk_sub, pk_rem4, nI_clamp, up2_o, up2_s, up2_i, cpV_o, cpV_i, e34, e31, e32, e1, e26]
            refine fs_ret rfl rfl ?_
            exact hP _ _ _ _ ⟨rfl, rfl, rfl, hM, kp⟩
          · have k24 : ps.length < 32 := c_lt h24 rfl rfl
            refine fs_aload_n (pc2 := 28) rfl rfl rfl rfl ?_
            refine fs_getr (pc2 := 31) rfl rfl rfl (by assumption) rfl ?_
            refine fs_iload_n (pc2 := 32) rfl rfl rfl rfl ?_
            try simp (disch := omega) only [nI_lit, pk_mul, nI_add, pk_sub, pk_rem4, nI_clamp, up2_o, up2_s, up2_i, cpV_o, cpV_i, e34, e31, e32, e1, e26]
            refine fs_iald (pc2 := 33) rfl rfl rfl (by assumption) (vp_in_nI (by omega) (by decide)) ?_
            refine fs_aload_n (pc2 := 34) rfl rfl rfl rfl ?_
            refine fs_getr (pc2 := 37) rfl rfl rfl (by assumption) rfl ?_
            refine fs_iload_n (pc2 := 38) rfl rfl rfl rfl ?_
            try simp (disch := omega) only [nI_lit, pk_mul, nI_add, pk_sub, pk_rem4, nI_clamp, up2_o, up2_s, up2_i, cpV_o, cpV_i, e34, e31, e32, e1, e26]
            refine fs_iald (pc2 := 39) rfl rfl rfl (by assumption) (vp_in_nI (by omega) (by decide)) ?_
            try simp (disch := omega) only [nI_lit, pk_mul, nI_add, pk_sub, pk_rem4, nI_clamp, up2_o, up2_s, up2_i, cpV_o, cpV_i, e34, e31, e32, e1, e26]
            refine fs_icmp_ne (pc2 := 42) rfl rfl rfl (fun h39 => ?_) (fun h39 => ?_)
            · have k39 : H.1 7 ≠ H.2.2.2.2.2.1.length := c_ne h39 rfl rfl
              have hu := lb (by omega)
              exact go80 k24 (by rw [hu]) V1 _ (by rw [hu]; exact hM) kp (by first | exact Or.inl rfl | exact Or.inr (Or.inr ⟨_, _, rfl⟩))
            · have k39 : H.1 7 = H.2.2.2.2.2.1.length := c_eq h39 rfl rfl
              refine fs_aload_n (pc2 := 43) rfl rfl rfl rfl ?_
              refine fs_iload_n (pc2 := 44) rfl rfl rfl rfl ?_
              try simp (disch := omega) only [nI_lit, pk_mul, nI_add, pk_sub, pk_rem4, nI_clamp, up2_o, up2_s, up2_i, cpV_o, cpV_i, e34, e31, e32, e1, e26]
              refine fs_callv (pc2 := 47) rfl rfl rfl rfl ⟨rfl, rfl⟩ (Nat.le_of_ble_eq_true rfl) (Nat.le_of_ble_eq_true rfl) (Nat.le_of_ble_eq_true rfl) (fs_rcv rfl (by assumption)) (m_nextChannel hm hM hh hS.2.1) (fun v9 sh9 V9 n9 hp9 => ?_)
              obtain ⟨ea9, eb9, ec9, hv9⟩ := hp9
              cases ea9
              obtain rfl := eb9.symm
              obtain rfl := ec9.symm
              cases hv9
              refine fs_istore_n (pc2 := 48) rfl rfl rfl (Nat.le_of_ble_eq_true rfl) ?_
              refine fs_aload_n (pc2 := 49) rfl rfl rfl rfl ?_
              refine fs_getr (pc2 := 52) rfl rfl rfl (by assumption) rfl ?_
              refine fs_iload_n (pc2 := 53) rfl rfl rfl rfl ?_
              try simp (disch := omega) only [nI_lit, pk_mul, nI_add, pk_sub, pk_rem4, nI_clamp, up2_o, up2_s, up2_i, cpV_o, cpV_i, e34, e31, e32, e1, e26]
              refine fs_iald (pc2 := 54) rfl rfl rfl (by assumption) (vp_in_nI (by omega) (by decide)) ?_
              try simp (disch := omega) only [nI_lit, pk_mul, nI_add, pk_sub, pk_rem4, nI_clamp, up2_o, up2_s, up2_i, cpV_o, cpV_i, e34, e31, e32, e1, e26]
              refine fs_if_le (pc2 := 57) rfl rfl rfl (fun h54 => ?_) (fun h54 => ?_)
              · have k54 : H.2.2.2.2.1.length ≤ 0 := c_le (b := 0) h54 rfl rfl
                have hQ : H.2.2.2.2.1 = [] := List.eq_nil_of_length_eq_zero (by omega)
                refine fs_iload_n (pc2 := 66) rfl rfl rfl rfl ?_
                try simp (disch := omega) only [nI_lit, pk_mul, nI_add, pk_sub, pk_rem4, nI_clamp, up2_o, up2_s, up2_i, cpV_o, cpV_i, e34, e31, e32, e1, e26]
                refine fs_if_lt (pc2 := 69) rfl rfl rfl (fun h66 => ?_) (fun h66 => ?_)
                · have hnx : ho_next H = none := by
                    cases hn : ho_next H with
                    | none => rfl
                    | some i =>
                      rw [hn] at h66
                      exact absurd h66 (nI_nlt (b := 0) (by omega) (by omega))
                  have hu : ho_unit H = (false, H) := by unfold ho_unit; rw [if_neg (by omega), hQ]; dsimp only; rw [hnx]
                  refine fs_iconst (pc2 := 79) rfl rfl rfl ?_
                  refine fs_istore_n (pc2 := 80) rfl rfl rfl (Nat.le_of_ble_eq_true rfl) ?_
                  refine fs_iload_n (pc2 := 81) rfl rfl rfl rfl ?_
                  try simp (disch := omega) only [nI_lit, pk_mul, nI_add, pk_sub, pk_rem4, nI_clamp, up2_o, up2_s, up2_i, cpV_o, cpV_i]
                  try simp (disch := omega) only [nI_lit, pk_mul, nI_add, pk_sub, pk_rem4, nI_clamp, up2_o, up2_s, up2_i, cpV_o, cpV_i, e34, e31, e32, e1, e26]
                  refine fs_if_eq (pc2 := 84) rfl rfl rfl (fun h81 => ?_) (fun h81 => ?_)
                  · refine fs_iload_n (pc2 := 3) rfl rfl rfl rfl ?_
                    try simp (disch := omega) only [nI_lit, pk_mul, nI_add, pk_sub, pk_rem4, nI_clamp, up2_o, up2_s, up2_i, cpV_o, cpV_i]
                    try simp (disch := omega) only [nI_lit, pk_mul, nI_add, pk_sub, pk_rem4, nI_clamp, up2_o, up2_s, up2_i, cpV_o, cpV_i, e34, e31, e32, e1, e26]
                    refine fs_if_eq (pc2 := 6) rfl rfl rfl (fun h3 => ?_) (fun h3 => ?_)
                    · try simp (disch := omega) only [nI_lit, pk_mul, nI_add, pk_sub, pk_rem4, nI_clamp, up2_o, up2_s, up2_i, cpV_o, cpV_i]
                      try simp (disch := omega) only [nI_lit, pk_mul, nI_add, pk_sub, pk_rem4, nI_clamp, up2_o, up2_s, up2_i, cpV_o, cpV_i, e34, e31, e32, e1, e26]
                      refine fs_ret rfl rfl ?_
                      rw [if_neg (by omega), if_pos (by rw [hu]), hu] at hP
                      exact hP _ _ _ _ ⟨rfl, rfl, rfl, hM, kp⟩
                    · exact absurd (by decide) h3
                  · exact absurd (by decide) h81
                · obtain ⟨i, hnx⟩ : ∃ i, ho_next H = some i := by
                    cases hn : ho_next H with
                    | none => rw [hn] at h66; exact absurd (show (-nI 1 : Int32) < 0 by decide) h66
                    | some i => exact ⟨i, rfl⟩
                  have hu : ho_unit H = (true, ho_bseg H ((H.1 10 + i) % 4)) := by unfold ho_unit; rw [if_neg (by omega), hQ]; dsimp only; rw [hnx]
                  refine fs_aload_n (pc2 := 70) rfl rfl rfl rfl ?_
                  refine fs_iload_n (pc2 := 71) rfl rfl rfl rfl ?_
                  refine fs_iload_n (pc2 := 72) rfl rfl rfl rfl ?_
                  try simp (disch := omega) only [nI_lit, pk_mul, nI_add, pk_sub, pk_rem4, nI_clamp, up2_o, up2_s, up2_i, cpV_o, cpV_i, e34, e31, e32, e1, e26]
                  refine fs_callv (pc2 := 75) rfl rfl rfl rfl ⟨rfl, rfl⟩ (Nat.le_of_ble_eq_true rfl) (Nat.le_of_ble_eq_true rfl) (Nat.le_of_ble_eq_true rfl) (fs_rcv rfl (by assumption)) (by rw [hnx]; exact m_beginSegment hm hM hh (by omega) hS (first4_lt hnx).2) (fun v9 sh9 V9 n9 hp9 => ?_)
                  obtain ⟨ea9, eb9, ec9, hM2, kp2⟩ := hp9
                  cases ea9
                  obtain rfl := eb9.symm
                  obtain rfl := ec9.symm
                  refine fs_goto rfl rfl ?_
                  exact go80 k24 (by rw [hu]) _ _ (by rw [hu]; exact hM2) (kp.trans kp2) (by first | exact Or.inr (Or.inl ⟨_, rfl⟩) | exact Or.inr (Or.inr ⟨_, _, rfl⟩))
              · have k54 : 0 < H.2.2.2.2.1.length := c_nle (b := 0) h54 rfl rfl
                obtain ⟨x, qs, hQ⟩ : ∃ x qs, H.2.2.2.2.1 = x :: qs := by
                  cases htx : H.2.2.2.2.1 with
                  | nil => rw [htx] at k54; simp at k54
                  | cons x qs => exact ⟨x, qs, rfl⟩
                have hu : ho_unit H = (true, ho_bsig H x qs) := by unfold ho_unit; rw [if_neg (by omega), hQ]
                refine fs_aload_n (pc2 := 58) rfl rfl rfl rfl ?_
                refine fs_iload_n (pc2 := 59) rfl rfl rfl rfl ?_
                try simp (disch := omega) only [nI_lit, pk_mul, nI_add, pk_sub, pk_rem4, nI_clamp, up2_o, up2_s, up2_i, cpV_o, cpV_i, e34, e31, e32, e1, e26]
                refine fs_callv (pc2 := 62) rfl rfl rfl rfl ⟨rfl, rfl⟩ (Nat.le_of_ble_eq_true rfl) (Nat.le_of_ble_eq_true rfl) (Nat.le_of_ble_eq_true rfl) (fs_rcv rfl (by assumption)) (m_beginSignal hm hM hh hQ) (fun v9 sh9 V9 n9 hp9 => ?_)
                obtain ⟨ea9, eb9, ec9, hM2, kp2⟩ := hp9
                cases ea9
                obtain rfl := eb9.symm
                obtain rfl := ec9.symm
                refine fs_goto rfl rfl ?_
                exact go80 k24 (by rw [hu]) _ _ (by rw [hu]; exact hM2) (kp.trans kp2) (by first | exact Or.inr (Or.inl ⟨_, rfl⟩) | exact Or.inr (Or.inr ⟨_, _, rfl⟩))
set_option maxRecDepth 100000 in
set_option maxHeartbeats 4000000 in
theorem m_sendAll (hm : isMo sh mb) (hM : Mo V mb T S HH) (hh : h < 2) (hS : SI2 HH) : fl_M cy z0 ext (d + 4) m_X7_sendAll [.ref (z0 + mb), .int (nI h)] sh V n (fun v sh' V' n' => v = none ∧ sh' = sh ∧ n' = n ∧ Mo V' mb T S (st_snd HH h) ∧ KP mb V V') := by
  obtain ⟨ho, h1⟩ : ∃ ho, h + ho = 1 := ⟨1 - h, by omega⟩
  have e1 : 1 - h = ho := by omega
  have h4 := (hS ho (by omega)).2
  have hM1 : Mo V mb T S (va_up (va_up HH ho (hoW (HH ho) (HH ho).2.2.2.1)) h (HH h)) := by
    rw [show hoW (HH ho) (HH ho).2.2.2.1 = HH ho from rfl, va_up_id, va_up_id]; exact hM
  refine fs_body rfl rfl (fun Ret hP => ?_)
  refine fs_iconst (pc2 := 1) rfl rfl rfl ?_
  refine fs_istore_n (pc2 := 2) rfl rfl rfl (Nat.le_of_ble_eq_true rfl) ?_
  try simp (disch := omega) only [nI_lit, pk_mul, nI_add, pk_sub, pk_rem4, nI_clamp, up2_o, up2_s, up2_i, cpV_o, cpV_i]
  refine m_sendAll_loop hm hh h1 (4 - sents (HH ho).2.2.2.1) V (HH h) (HH ho).2.2.2.1 [] (by omega) (hS h hh).1 hM1 (KP.refl (V := V)) (Or.inl rfl) (fun v sh' V' n' hq => hP v sh' V' n' ?_)
  obtain ⟨q1, q2, q3, q4, q5⟩ := hq
  refine ⟨q1, q2, q3, ?_, q5⟩
  unfold st_snd
  rw [e1, va_up_swap (by omega)]
  exact q4
set_option maxRecDepth 100000 in
set_option maxHeartbeats 4000000 in
theorem m_sendBoth (hm : isMo sh mb) (hM : Mo V mb T S HH) (hS : SI2 HH) : fl_M cy z0 ext (d + 5) m_X7_sendBoth [.ref (z0 + mb)] sh V n (fun v sh' V' n' => v = none ∧ sh' = sh ∧ n' = n ∧ Mo V' mb T S (st_send HH) ∧ KP mb V V') := by
  have m0 := hm.1
  refine fs_body rfl rfl (fun Ret hP => ?_)
  refine fs_aload_n (pc2 := 1) rfl rfl rfl rfl ?_
  refine fs_iconst (pc2 := 2) rfl rfl rfl ?_
  try simp (disch := omega) only [nI_lit, pk_mul, nI_add, pk_sub, pk_rem4, nI_clamp, up2_o, up2_s, up2_i, cpV_o, cpV_i]
  refine fs_callv (pc2 := 5) rfl rfl rfl rfl ⟨rfl, rfl⟩ (Nat.le_of_ble_eq_true rfl) (Nat.le_of_ble_eq_true rfl) (Nat.le_of_ble_eq_true rfl) (fs_rcv rfl (by assumption)) (m_sendAll hm hM (h := 0) (by decide) hS) (fun v9 sh9 V9 n9 hp9 => ?_)
  obtain ⟨ea9, eb9, ec9, hM2, kp2⟩ := hp9
  cases ea9
  obtain rfl := eb9.symm
  obtain rfl := ec9.symm
  refine fs_aload_n (pc2 := 6) rfl rfl rfl rfl ?_
  refine fs_iconst (pc2 := 7) rfl rfl rfl ?_
  try simp (disch := omega) only [nI_lit, pk_mul, nI_add, pk_sub, pk_rem4, nI_clamp, up2_o, up2_s, up2_i, cpV_o, cpV_i]
  refine fs_callv (pc2 := 10) rfl rfl rfl rfl ⟨rfl, rfl⟩ (Nat.le_of_ble_eq_true rfl) (Nat.le_of_ble_eq_true rfl) (Nat.le_of_ble_eq_true rfl) (fs_rcv rfl (by assumption)) (m_sendAll hm hM2 (h := 1) (by decide) (hS.snd (i := 0) (by decide))) (fun v9 sh9 V9 n9 hp9 => ?_)
  obtain ⟨ea9, eb9, ec9, hM3, kp3⟩ := hp9
  cases ea9
  obtain rfl := eb9.symm
  obtain rfl := ec9.symm
  try simp (disch := omega) only [nI_lit, pk_mul, nI_add, pk_sub, pk_rem4, nI_clamp, up2_o, up2_s, up2_i, cpV_o, cpV_i]
  refine fs_ret rfl rfl ?_
  exact hP _ _ _ _ ⟨rfl, rfl, rfl, hM3, kp2.trans kp3⟩
end MALL
