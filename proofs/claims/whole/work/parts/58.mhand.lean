theorem isInB_64 {t : Nat} (ht : t < 65536) : isInB (nI t - nI 64) (nI 0) (nI 3) = decide (64 ≤ t ∧ t < 68) := by
  by_cases q : 64 ≤ t
  · rw [pk_sub q, isInB_nI (by omega) (by decide) (by decide)]
    exact decide_eq_decide.mpr (by omega)
  · have e : nI t - nI 64 < nI 0 := by
      rw [Int32.lt_iff_toInt_lt, pk_sub_toInt (by omega) (by decide)]
      show (t : Int) - ((64 : Nat) : Int) < 0
      omega
    unfold isInB
    rw [decide_eq_false (by intro z; exact z.1 e), decide_eq_false (by omega)]
theorem two_num {G : List Nat} {j : Nat} (hb : ∀ i, G.getD i 0 < 256) (hl : j + 1 < G.length) : two (num2 G j) = [G.getD j 0, G.getD (j + 1) 0] := by
  have a := hb j
  have b := hb (j + 1)
  unfold num2 two
  rw [if_pos hl, show (G.getD j 0 + 256 * G.getD (j + 1) 0) % 256 = G.getD j 0 by omega, show (G.getD j 0 + 256 * G.getD (j + 1) 0) / 256 = G.getD (j + 1) 0 by omega]
section MHAND
variable {cy : Nat → ClassId} {z0 : Nat} {ext : Nat → Nat → List Value → ev_H → Nat → ev_P → Prop} {d : Nat} {sh : fl_S} {V : fl_V} {n mb : Nat} {T : Nat → Nat} {S : List Nat} {HH : Nat → Ho} {H : Ho} {h k : Nat}
set_option maxRecDepth 100000 in
set_option maxHeartbeats 4000000 in
theorem m_byId (hm : isMo sh mb) (hM : Mo V mb T S (va_up HH h (hoG H []))) (hh : h < 2) (hX : HD V mb (H.2.2.2.2.2.2.drop 4)) {sid co : Nat} (hid : sid < 256) (hco : (co = 21 ∧ 18 ≤ H.2.2.2.2.2.2.length) ∨ co = 1) (hrx : ∀ k, k < 4 → (H.2.1 k).1 1 = 1 → (H.2.1 k).2.2.2.1 = []) : fl_M cy z0 ext (d + 4) m_X7_byId [.ref (z0 + mb), .int (nI h), .int (nI sid), .int (nI co)] sh V n (fun v sh' V' n' => v = none ∧ sh' = sh ∧ n' = n ∧ Mo V' mb T S (va_up HH h (hoG (if co = 21 then ho_ans H sid else ho_rej H sid) [])) ∧ KP mb V V') := by
  rcases hco with ⟨rfl, hl⟩ | rfl
  · exact m_byId21 hm hM hh hX hl hrx hid
  · exact m_byId1 hm hM hh hid
set_option maxRecDepth 100000 in
set_option maxHeartbeats 4000000 in
theorem m_signal (hm : isMo sh mb) (hM : Mo V mb T S (va_up HH h (hoG H []))) (hh : h < 2) (hX : HD V mb (H.2.2.2.2.2.2.drop 4)) {size : Nat} (hl : H.2.2.2.2.2.2.length = 4 + size) (l128 : size ≤ 124) (hby : ∀ i, H.2.2.2.2.2.2.getD i 0 < 256) (hrx : ∀ k, k < 4 → (H.2.1 k).1 1 = 1 → (H.2.1 k).2.2.2.1 = []) (hT : ∀ i, i < 2 → T i < 2048) : fl_M cy z0 ext (d + 5) m_X7_signal [.ref (z0 + mb), .int (nI h), .int (nI size)] sh V n (fun v sh' V' n' => v = none ∧ sh' = sh ∧ n' = n ∧ Mo V' mb (fun i => T i + 1) S (va_up HH h (hoG (ho_sig H) [])) ∧ KP mb V V') := by
  have m0 := hm.1
  have a6 : sh (mb + 6) = some (.inl (1, 8, none)) := hm.2 5 (1, 8) rfl
  have a10 : sh (mb + 10) = some (.inl (1, 8, none)) := hm.2 9 (1, 8) rfl
  have a44 : sh (mb + 44) = some (.inl (1, 32, none)) := hm.2 43 (1, 32) rfl
  have hMm := hM.mono (T' := fun i => T i + 1) (fun i hi => ⟨by omega, hT i hi⟩)
  have gd : ∀ j, (H.2.2.2.2.2.2.drop 4).getD j 0 = H.2.2.2.2.2.2.getD (4 + j) 0 := fun j => by simp only [List.getD_eq_getElem?_getD, List.getElem?_drop]
  obtain ⟨sid, hsid⟩ : ∃ x, x = H.2.2.2.2.2.2.getD 5 0 := ⟨_, rfl⟩
  obtain ⟨co, hco⟩ : ∃ x, x = H.2.2.2.2.2.2.getD 4 0 := ⟨_, rfl⟩
  have eid : V (mb + 44) 1 = nI sid := by rw [hsid, ← gd 1]; exact (hX 1 (by decide)).1
  have eco : V (mb + 44) 0 = nI co := by rw [hco, ← gd 0]; exact (hX 0 (by decide)).1
  have lid : sid < 256 := by rw [hsid]; exact hby 5
  have lco : co < 256 := by rw [hco]; exact hby 4
  obtain ⟨len, hlen⟩ : ∃ x, x = H.2.2.2.2.2.2.getD 6 0 + 256 * H.2.2.2.2.2.2.getD 7 0 := ⟨_, rfl⟩
  have llen : len < 65536 := by have := hby 6; have := hby 7; omega
  have en : 8 ≤ H.2.2.2.2.2.2.length → num2 H.2.2.2.2.2.2 6 = len := fun q => by unfold num2; rw [if_pos (by omega), hlen]
  have l0 := tl_lt2 (H := H) hX (k := 0) (by decide)
  have l1 := tl_lt2 (H := H) hX (k := 1) (by decide)
  have hCC := fun i hi => (hM.host hh).2.2.2.2.2.2 i hi
  have sg : ho_sig H = if H.2.2.2.2.2.2.length < 8 ∨ sid = 0 then H else if num2 H.2.2.2.2.2.2 6 ≠ H.2.2.2.2.2.2.length - 8 ∨ sigOK co (H.2.2.2.2.2.2.length - 8) = false then hoQ (hoN H 13 (H.1 13 + 1)) (H.2.2.2.2.1 ++ [[1, sid, 2, 0] ++ two 0]) else ho_sigd H co sid := by unfold ho_sig; rw [← hsid, ← hco]
  refine fs_body rfl rfl (fun Ret hP => ?_)
  refine fs_aload_n (pc2 := 1) rfl rfl rfl rfl ?_
  refine fs_getr (pc2 := 4) rfl rfl rfl (by assumption) rfl ?_
  refine fs_iconst (pc2 := 5) rfl rfl rfl ?_
  try simp (disch := omega) only [nI_lit, pk_mul, nI_add, pk_sub, pk_rem4, nI_clamp, up2_o, up2_s, up2_i, cpV_o, cpV_i, eid, eco]
  refine fs_iald (pc2 := 6) rfl rfl rfl (by assumption) (vp_in_nI (by omega) (by decide)) ?_
  refine fs_istore_n (pc2 := 7) rfl rfl rfl (Nat.le_of_ble_eq_true rfl) ?_
  refine fs_aload_n (pc2 := 8) rfl rfl rfl rfl ?_
  refine fs_iconst (pc2 := 9) rfl rfl rfl ?_
  try simp (disch := omega) only [nI_lit, pk_mul, nI_add, pk_sub, pk_rem4, nI_clamp, up2_o, up2_s, up2_i, cpV_o, cpV_i, eid, eco]
  refine fs_callv (pc2 := 12) rfl rfl rfl rfl ⟨rfl, rfl⟩ (Nat.le_of_ble_eq_true rfl) (Nat.le_of_ble_eq_true rfl) (Nat.le_of_ble_eq_true rfl) (fs_rcv rfl (by assumption)) (m_handTwo hm hX (k := 2) (by decide)) (fun v9 sh9 V9 n9 hp9 => ?_)
  obtain ⟨ea9, eb9, ec9, hv9⟩ := hp9
  cases ea9
  obtain rfl := eb9.symm
  obtain rfl := ec9.symm
  cases hv9
  rw [gd, gd, show H.2.2.2.2.2.2.getD (4 + 2) 0 + 256 * H.2.2.2.2.2.2.getD (4 + (2 + 1)) 0 = len from hlen.symm]
  refine fs_istore (pc2 := 14) rfl rfl rfl (Nat.le_of_ble_eq_true rfl) ?_
  refine fs_aload_n (pc2 := 15) rfl rfl rfl rfl ?_
  refine fs_getr (pc2 := 18) rfl rfl rfl (by assumption) rfl ?_
  refine fs_iconst (pc2 := 19) rfl rfl rfl ?_
  try simp (disch := omega) only [nI_lit, pk_mul, nI_add, pk_sub, pk_rem4, nI_clamp, up2_o, up2_s, up2_i, cpV_o, cpV_i, eid, eco]
  refine fs_iald (pc2 := 20) rfl rfl rfl (by assumption) (vp_in_nI (by omega) (by decide)) ?_
  refine fs_istore (pc2 := 22) rfl rfl rfl (Nat.le_of_ble_eq_true rfl) ?_
  refine fs_iload_n (pc2 := 23) rfl rfl rfl rfl ?_
  refine fs_iconst (pc2 := 24) rfl rfl rfl ?_
  try simp (disch := omega) only [nI_lit, pk_mul, nI_add, pk_sub, pk_rem4, nI_clamp, up2_o, up2_s, up2_i, cpV_o, cpV_i, eid, eco]
  refine fs_icmp_lt (pc2 := 27) rfl rfl rfl (fun h24 => ?_) (fun h24 => ?_)
  · have k24 : size < 4 := c_lt (b := 4) h24 rfl rfl
    rw [if_pos (by omega)] at sg
    try simp (disch := omega) only [nI_lit, pk_mul, nI_add, pk_sub, pk_rem4, nI_clamp, up2_o, up2_s, up2_i, cpV_o, cpV_i, eid, eco]
    refine fs_ret rfl rfl ?_
    rw [sg] at hP
    exact hP _ _ _ _ ⟨rfl, rfl, rfl, hMm, KP.refl⟩
  · have k24 : 4 ≤ size := c_nlt (b := 4) h24 rfl rfl
    rw [en (by omega)] at sg
    refine fs_iload_n (pc2 := 28) rfl rfl rfl rfl ?_
    try simp (disch := omega) only [nI_lit, pk_mul, nI_add, pk_sub, pk_rem4, nI_clamp, up2_o, up2_s, up2_i, cpV_o, cpV_i, eid, eco]
    refine fs_if_ne (pc2 := 31) rfl rfl rfl (fun h28 => ?_) (fun h28 => ?_)
    · have k28 : sid ≠ 0 := c_ne (b := 0) h28 rfl rfl
      rw [if_neg (by omega)] at sg
      refine fs_iload (pc2 := 34) rfl rfl rfl rfl ?_
      refine fs_iload_n (pc2 := 35) rfl rfl rfl rfl ?_
      refine fs_iconst (pc2 := 36) rfl rfl rfl ?_
      refine fs_isub (pc2 := 37) rfl rfl rfl ?_
      try simp (disch := omega) only [nI_lit, pk_mul, nI_add, pk_sub, pk_rem4, nI_clamp, up2_o, up2_s, up2_i, cpV_o, cpV_i, eid, eco]
      refine fs_icmp_ne (pc2 := 40) rfl rfl rfl (fun h37 => ?_) (fun h37 => ?_)
      · have k37 : len ≠ size - 4 := c_ne h37 rfl rfl
        rw [if_pos (Or.inl (by omega))] at sg
        refine fs_aload_n (pc2 := 51) rfl rfl rfl rfl ?_
        refine fs_iload_n (pc2 := 52) rfl rfl rfl rfl ?_
        refine fs_iload_n (pc2 := 53) rfl rfl rfl rfl ?_
        refine fs_iconst (pc2 := 54) rfl rfl rfl ?_
        refine fs_iconst (pc2 := 55) rfl rfl rfl ?_
        try simp (disch := omega) only [nI_lit, pk_mul, nI_add, pk_sub, pk_rem4, nI_clamp, up2_o, up2_s, up2_i, cpV_o, cpV_i, eid, eco]
        refine fs_callv (pc2 := 58) rfl rfl rfl rfl ⟨rfl, rfl⟩ (Nat.le_of_ble_eq_true rfl) (Nat.le_of_ble_eq_true rfl) (Nat.le_of_ble_eq_true rfl) (fs_rcv rfl (by assumption)) (m_reject hm hM hh (sid := sid) (rs := 0) (ms := []) lid (by decide) (by simp) (fun j hj => by simp at hj) hT) (fun v9 sh9 V9 n9 hp9 => ?_)
        obtain ⟨ea9, eb9, ec9, hM2, kp2⟩ := hp9
        cases ea9
        obtain rfl := eb9.symm
        obtain rfl := ec9.symm
        try simp (disch := omega) only [nI_lit, pk_mul, nI_add, pk_sub, pk_rem4, nI_clamp, up2_o, up2_s, up2_i, cpV_o, cpV_i, eid, eco]
        refine fs_ret rfl rfl ?_
        rw [sg] at hP
        exact hP _ _ _ _ ⟨rfl, rfl, rfl, hM2, kp2⟩
      · have k37 : len = size - 4 := c_eq h37 rfl rfl
        refine fs_iload (pc2 := 42) rfl rfl rfl rfl ?_
        refine fs_iload (pc2 := 44) rfl rfl rfl rfl ?_
        try simp (disch := omega) only [nI_lit, pk_mul, nI_add, pk_sub, pk_rem4, nI_clamp, up2_o, up2_s, up2_i, cpV_o, cpV_i, eid, eco]
        refine fs_calls (pc2 := 47) rfl rfl rfl rfl rfl rfl ⟨rfl, rfl⟩ (Nat.le_of_ble_eq_true rfl) (Nat.le_of_ble_eq_true rfl) (Nat.le_of_ble_eq_true rfl) (m_isSound (co := co) (l := len) (by omega) (by omega)) (fun v9 sh9 V9 n9 hp9 => ?_)
        obtain ⟨ea9, eb9, ec9, hv9⟩ := hp9
        cases ea9
        obtain rfl := eb9.symm
        obtain rfl := ec9.symm
        cases hv9
        try simp (disch := omega) only [nI_lit, pk_mul, nI_add, pk_sub, pk_rem4, nI_clamp, up2_o, up2_s, up2_i, cpV_o, cpV_i, eid, eco]
        refine fs_if_ne (pc2 := 50) rfl rfl rfl (fun h47 => ?_) (fun h47 => ?_)
        · have k47 := bI_t h47
          rw [if_neg (by rw [show H.2.2.2.2.2.2.length - 8 = len by omega, k47]; simp)] at sg
          have kS := of_decide_eq_true k47
          refine fs_iload (pc2 := 61) rfl rfl rfl rfl ?_
          refine fs_bipush (pc2 := 63) rfl rfl rfl ?_
          try simp (disch := omega) only [nI_lit, pk_mul, nI_add, pk_sub, pk_rem4, nI_clamp, up2_o, up2_s, up2_i, cpV_o, cpV_i, eid, eco]
          refine fs_icmp_ne (pc2 := 66) rfl rfl rfl (fun h63 => ?_) (fun h63 => ?_)
          · have k63 : co ≠ 20 := c_ne (b := 20) h63 rfl rfl
            refine fs_iload (pc2 := 77) rfl rfl rfl rfl ?_
            refine fs_bipush (pc2 := 79) rfl rfl rfl ?_
            try simp (disch := omega) only [nI_lit, pk_mul, nI_add, pk_sub, pk_rem4, nI_clamp, up2_o, up2_s, up2_i, cpV_o, cpV_i, eid, eco]
            refine fs_icmp_ne (pc2 := 82) rfl rfl rfl (fun h79 => ?_) (fun h79 => ?_)
            · have k79 : co ≠ 22 := c_ne (b := 22) h79 rfl rfl
              refine fs_iload (pc2 := 92) rfl rfl rfl rfl ?_
              refine fs_bipush (pc2 := 94) rfl rfl rfl ?_
              try simp (disch := omega) only [nI_lit, pk_mul, nI_add, pk_sub, pk_rem4, nI_clamp, up2_o, up2_s, up2_i, cpV_o, cpV_i, eid, eco]
              refine fs_icmp_ne (pc2 := 97) rfl rfl rfl (fun h94 => ?_) (fun h94 => ?_)
              · have k94 : co ≠ 6 := c_ne (b := 6) h94 rfl rfl
                refine fs_iload (pc2 := 217) rfl rfl rfl rfl ?_
                refine fs_bipush (pc2 := 219) rfl rfl rfl ?_
                try simp (disch := omega) only [nI_lit, pk_mul, nI_add, pk_sub, pk_rem4, nI_clamp, up2_o, up2_s, up2_i, cpV_o, cpV_i, eid, eco]
                refine fs_icmp_ne (pc2 := 222) rfl rfl rfl (fun h219 => ?_) (fun h219 => ?_)
                · have k219 : co ≠ 7 := c_ne (b := 7) h219 rfl rfl
                  rw [show ho_sigd H co sid = if co = 21 then ho_ans H sid else ho_rej H sid from by unfold ho_sigd; simp [k63, k79, k94, k219]] at sg
                  refine fs_aload_n (pc2 := 291) rfl rfl rfl rfl ?_
                  refine fs_iload_n (pc2 := 292) rfl rfl rfl rfl ?_
                  refine fs_iload_n (pc2 := 293) rfl rfl rfl rfl ?_
                  refine fs_iload (pc2 := 295) rfl rfl rfl rfl ?_
                  try simp (disch := omega) only [nI_lit, pk_mul, nI_add, pk_sub, pk_rem4, nI_clamp, up2_o, up2_s, up2_i, cpV_o, cpV_i, eid, eco]
                  refine fs_callv (pc2 := 298) rfl rfl rfl rfl ⟨rfl, rfl⟩ (Nat.le_of_ble_eq_true rfl) (Nat.le_of_ble_eq_true rfl) (Nat.le_of_ble_eq_true rfl) (fs_rcv rfl (by assumption)) (m_byId hm hMm hh hX (co := co) lid (by omega) hrx) (fun v9 sh9 V9 n9 hp9 => ?_)
                  obtain ⟨ea9, eb9, ec9, hM2, kp2⟩ := hp9
                  cases ea9
                  obtain rfl := eb9.symm
                  obtain rfl := ec9.symm
                  try simp (disch := omega) only [nI_lit, pk_mul, nI_add, pk_sub, pk_rem4, nI_clamp, up2_o, up2_s, up2_i, cpV_o, cpV_i, eid, eco]
                  refine fs_ret rfl rfl ?_
                  rw [sg] at hP
                  exact hP _ _ _ _ ⟨rfl, rfl, rfl, hM2, kp2⟩
                · have k219 : co = 7 := c_eq (b := 7) h219 rfl rfl
                  rw [show ho_sigd H co sid = ho_left H from by unfold ho_sigd; simp [k219]] at sg
                  refine fs_aload_n (pc2 := 223) rfl rfl rfl rfl ?_
                  refine fs_bipush (pc2 := 225) rfl rfl rfl ?_
                  try simp (disch := omega) only [nI_lit, pk_mul, nI_add, pk_sub, pk_rem4, nI_clamp, up2_o, up2_s, up2_i, cpV_o, cpV_i, eid, eco]
                  refine fs_callv (pc2 := 228) rfl rfl rfl rfl ⟨rfl, rfl⟩ (Nat.le_of_ble_eq_true rfl) (Nat.le_of_ble_eq_true rfl) (Nat.le_of_ble_eq_true rfl) (fs_rcv rfl (by assumption)) (m_hand (H := H) (k := 1) hm hX (by omega) (by decide)) (fun v9 sh9 V9 n9 hp9 => ?_)
                  obtain ⟨ea9, eb9, ec9, hv9⟩ := hp9
                  cases ea9
                  obtain rfl := eb9.symm
                  obtain rfl := ec9.symm
                  cases hv9
                  refine fs_bipush (pc2 := 230) rfl rfl rfl ?_
                  refine fs_isub (pc2 := 231) rfl rfl rfl ?_
                  refine fs_istore (pc2 := 233) rfl rfl rfl (Nat.le_of_ble_eq_true rfl) ?_
                  refine fs_iload (pc2 := 235) rfl rfl rfl rfl ?_
                  refine fs_iconst (pc2 := 236) rfl rfl rfl ?_
                  refine fs_iconst (pc2 := 237) rfl rfl rfl ?_
                  try simp (disch := omega) only [nI_lit, pk_mul, nI_add, pk_sub, pk_rem4, nI_clamp, up2_o, up2_s, up2_i, cpV_o, cpV_i, eid, eco]
                  refine fs_calls (pc2 := 240) rfl rfl rfl rfl rfl rfl ⟨rfl, rfl⟩ (Nat.le_of_ble_eq_true rfl) (Nat.le_of_ble_eq_true rfl) (Nat.le_of_ble_eq_true rfl) (m_isIn (u := nI (tl H 1) - nI 64) (a := nI 0) (b := nI 3)) (fun v9 sh9 V9 n9 hp9 => ?_)
                  obtain ⟨ea9, eb9, ec9, hv9⟩ := hp9
                  cases ea9
                  obtain rfl := eb9.symm
                  obtain rfl := ec9.symm
                  cases hv9
                  rw [isInB_64 (by omega)]
                  first | simp (disch := omega) only [nI_lit, pk_mul, nI_add, pk_sub, pk_rem4, nI_clamp, up2_o, up2_s, up2_i, cpV_o, cpV_i, eid, eco, e6, e10] | simp (disch := omega) only [nI_lit, pk_mul, nI_add, pk_sub, pk_rem4, nI_clamp, up2_o, up2_s, up2_i, cpV_o, cpV_i, eid, eco] | skip
                  refine fs_if_eq (pc2 := 243) rfl rfl rfl (fun h240 => ?_) (fun h240 => ?_)
                  · have k240 := of_decide_eq_false (bI_0.mp h240)
                    rw [show ho_left H = H from by unfold ho_left; rw [if_neg (by intro z; exact k240 z.1)]] at sg
                    refine fs_goto rfl rfl ?_
                    try simp (disch := omega) only [nI_lit, pk_mul, nI_add, pk_sub, pk_rem4, nI_clamp, up2_o, up2_s, up2_i, cpV_o, cpV_i, eid, eco]
                    refine fs_ret rfl rfl ?_
                    rw [sg] at hP
                    exact hP _ _ _ _ ⟨rfl, rfl, rfl, hMm, KP.refl⟩
                  · have k240 := of_decide_eq_true (bI_t h240)
                    obtain ⟨e6, l6⟩ := (hCC (tl H 1 - 64) (by omega)).num (1, 6) (by decide)
                    obtain ⟨e10, l10⟩ := (hCC (tl H 1 - 64) (by omega)).num (6, 10) (by decide)
                    dsimp only at e6 l6 e10 l10
                    refine fs_aload_n (pc2 := 244) rfl rfl rfl rfl ?_
                    refine fs_getr (pc2 := 247) rfl rfl rfl (by assumption) rfl ?_
                    refine fs_iconst (pc2 := 248) rfl rfl rfl ?_
                    refine fs_iload_n (pc2 := 249) rfl rfl rfl rfl ?_
                    refine fs_imul (pc2 := 250) rfl rfl rfl ?_
                    refine fs_iload (pc2 := 252) rfl rfl rfl rfl ?_
                    refine fs_iadd (pc2 := 253) rfl rfl rfl ?_
                    first | simp (disch := omega) only [nI_lit, pk_mul, nI_add, pk_sub, pk_rem4, nI_clamp, up2_o, up2_s, up2_i, cpV_o, cpV_i, eid, eco, e6, e10] | simp (disch := omega) only [nI_lit, pk_mul, nI_add, pk_sub, pk_rem4, nI_clamp, up2_o, up2_s, up2_i, cpV_o, cpV_i, eid, eco] | skip
                    refine fs_iald (pc2 := 254) rfl rfl rfl (by assumption) (vp_in_nI (by omega) (by decide)) ?_
                    refine fs_iconst (pc2 := 255) rfl rfl rfl ?_
                    first | simp (disch := omega) only [nI_lit, pk_mul, nI_add, pk_sub, pk_rem4, nI_clamp, up2_o, up2_s, up2_i, cpV_o, cpV_i, eid, eco, e6, e10] | simp (disch := omega) only [nI_lit, pk_mul, nI_add, pk_sub, pk_rem4, nI_clamp, up2_o, up2_s, up2_i, cpV_o, cpV_i, eid, eco] | skip
                    refine fs_icmp_ne (pc2 := 258) rfl rfl rfl (fun h255 => ?_) (fun h255 => ?_)
                    · have k255 : (H.2.1 (tl H 1 - 64)).1 1 ≠ 3 := c_ne (b := 3) h255 rfl rfl
                      rw [show ho_left H = H from by unfold ho_left; rw [if_neg (by intro z; exact k255 z.2.1)]] at sg
                      refine fs_goto rfl rfl ?_
                      try simp (disch := omega) only [nI_lit, pk_mul, nI_add, pk_sub, pk_rem4, nI_clamp, up2_o, up2_s, up2_i, cpV_o, cpV_i, eid, eco]
                      refine fs_ret rfl rfl ?_
                      rw [sg] at hP
                      exact hP _ _ _ _ ⟨rfl, rfl, rfl, hMm, KP.refl⟩
                    · have k255 : (H.2.1 (tl H 1 - 64)).1 1 = 3 := c_eq (b := 3) h255 rfl rfl
                      refine fs_aload_n (pc2 := 259) rfl rfl rfl rfl ?_
                      refine fs_getr (pc2 := 262) rfl rfl rfl (by assumption) rfl ?_
                      refine fs_iconst (pc2 := 263) rfl rfl rfl ?_
                      refine fs_iload_n (pc2 := 264) rfl rfl rfl rfl ?_
                      refine fs_imul (pc2 := 265) rfl rfl rfl ?_
                      refine fs_iload (pc2 := 267) rfl rfl rfl rfl ?_
                      refine fs_iadd (pc2 := 268) rfl rfl rfl ?_
                      first | simp (disch := omega) only [nI_lit, pk_mul, nI_add, pk_sub, pk_rem4, nI_clamp, up2_o, up2_s, up2_i, cpV_o, cpV_i, eid, eco, e6, e10] | simp (disch := omega) only [nI_lit, pk_mul, nI_add, pk_sub, pk_rem4, nI_clamp, up2_o, up2_s, up2_i, cpV_o, cpV_i, eid, eco] | skip
                      refine fs_iald (pc2 := 269) rfl rfl rfl (by assumption) (vp_in_nI (by omega) (by decide)) ?_
                      refine fs_aload_n (pc2 := 270) rfl rfl rfl rfl ?_
                      refine fs_iconst (pc2 := 271) rfl rfl rfl ?_
                      first | simp (disch := omega) only [nI_lit, pk_mul, nI_add, pk_sub, pk_rem4, nI_clamp, up2_o, up2_s, up2_i, cpV_o, cpV_i, eid, eco, e6, e10] | simp (disch := omega) only [nI_lit, pk_mul, nI_add, pk_sub, pk_rem4, nI_clamp, up2_o, up2_s, up2_i, cpV_o, cpV_i, eid, eco] | skip
                      refine fs_callv (pc2 := 274) rfl rfl rfl rfl ⟨rfl, rfl⟩ (Nat.le_of_ble_eq_true rfl) (Nat.le_of_ble_eq_true rfl) (Nat.le_of_ble_eq_true rfl) (fs_rcv rfl (by assumption)) (m_hand (H := H) (k := 0) hm hX (by omega) (by decide)) (fun v9 sh9 V9 n9 hp9 => ?_)
                      obtain ⟨ea9, eb9, ec9, hv9⟩ := hp9
                      cases ea9
                      obtain rfl := eb9.symm
                      obtain rfl := ec9.symm
                      cases hv9
                      first | simp (disch := omega) only [nI_lit, pk_mul, nI_add, pk_sub, pk_rem4, nI_clamp, up2_o, up2_s, up2_i, cpV_o, cpV_i, eid, eco, e6, e10] | simp (disch := omega) only [nI_lit, pk_mul, nI_add, pk_sub, pk_rem4, nI_clamp, up2_o, up2_s, up2_i, cpV_o, cpV_i, eid, eco] | skip
                      refine fs_icmp_ne (pc2 := 277) rfl rfl rfl (fun h274 => ?_) (fun h274 => ?_)
                      · have k274 : (H.2.1 (tl H 1 - 64)).1 6 ≠ tl H 0 := c_ne h274 rfl rfl
                        rw [show ho_left H = H from by unfold ho_left; rw [if_neg (by intro z; exact k274 z.2.2)]] at sg
                        refine fs_goto rfl rfl ?_
                        try simp (disch := omega) only [nI_lit, pk_mul, nI_add, pk_sub, pk_rem4, nI_clamp, up2_o, up2_s, up2_i, cpV_o, cpV_i, eid, eco]
                        refine fs_ret rfl rfl ?_
                        rw [sg] at hP
                        exact hP _ _ _ _ ⟨rfl, rfl, rfl, hMm, KP.refl⟩
                      · have k274 : (H.2.1 (tl H 1 - 64)).1 6 = tl H 0 := c_eq h274 rfl rfl
                        rw [show ho_left H = hoC H (tl H 1 - 64) (ch_close (H.2.1 (tl H 1 - 64))) from by unfold ho_left; rw [if_pos ⟨k240, k255, k274⟩]] at sg
                        refine fs_aload_n (pc2 := 278) rfl rfl rfl rfl ?_
                        refine fs_iconst (pc2 := 279) rfl rfl rfl ?_
                        refine fs_iload_n (pc2 := 280) rfl rfl rfl rfl ?_
                        refine fs_imul (pc2 := 281) rfl rfl rfl ?_
                        refine fs_iload (pc2 := 283) rfl rfl rfl rfl ?_
                        refine fs_iadd (pc2 := 284) rfl rfl rfl ?_
                        try simp (disch := omega) only [nI_lit, pk_mul, nI_add, pk_sub, pk_rem4, nI_clamp, up2_o, up2_s, up2_i, cpV_o, cpV_i, eid, eco]
                        refine fs_callv (pc2 := 287) rfl rfl rfl rfl ⟨rfl, rfl⟩ (Nat.le_of_ble_eq_true rfl) (Nat.le_of_ble_eq_true rfl) (Nat.le_of_ble_eq_true rfl) (fs_rcv rfl (by assumption)) (m_close hm hMm hh (k := tl H 1 - 64) (by omega)) (fun v9 sh9 V9 n9 hp9 => ?_)
                        obtain ⟨ea9, eb9, ec9, hM2, kp2⟩ := hp9
                        cases ea9
                        obtain rfl := eb9.symm
                        obtain rfl := ec9.symm
                        refine fs_goto rfl rfl ?_
                        try simp (disch := omega) only [nI_lit, pk_mul, nI_add, pk_sub, pk_rem4, nI_clamp, up2_o, up2_s, up2_i, cpV_o, cpV_i, eid, eco]
                        refine fs_ret rfl rfl ?_
                        rw [sg] at hP
                        exact hP _ _ _ _ ⟨rfl, rfl, rfl, hM2, kp2⟩
              · have k94 : co = 6 := c_eq (b := 6) h94 rfl rfl
                rw [show ho_sigd H co sid = ho_lv H sid from by unfold ho_sigd; simp [k94]] at sg
                have hms : ∀ j, j < (two (tl H 0) ++ two (tl H 1)).length → V (mb + 44) (4 + j) = nI ((two (tl H 0) ++ two (tl H 1)).getD j 0) ∧ (two (tl H 0) ++ two (tl H 1)).getD j 0 < 256 := by
                  intro j hj
                  have lj : j < 4 := hj
                  have hxj := hX (4 + j) (by omega)
                  rw [gd] at hxj
                  have e0 : two (tl H 0) = [H.2.2.2.2.2.2.getD 8 0, H.2.2.2.2.2.2.getD 9 0] := two_num hby (by omega)
                  have e1 : two (tl H 1) = [H.2.2.2.2.2.2.getD 10 0, H.2.2.2.2.2.2.getD 11 0] := two_num hby (by omega)
                  rw [e0, e1]
                  rcases (by omega : j = 0 ∨ j = 1 ∨ j = 2 ∨ j = 3) with rfl | rfl | rfl | rfl <;> exact hxj
                refine fs_aload_n (pc2 := 98) rfl rfl rfl rfl ?_
                refine fs_iconst (pc2 := 99) rfl rfl rfl ?_
                try simp (disch := omega) only [nI_lit, pk_mul, nI_add, pk_sub, pk_rem4, nI_clamp, up2_o, up2_s, up2_i, cpV_o, cpV_i, eid, eco]
                refine fs_callv (pc2 := 102) rfl rfl rfl rfl ⟨rfl, rfl⟩ (Nat.le_of_ble_eq_true rfl) (Nat.le_of_ble_eq_true rfl) (Nat.le_of_ble_eq_true rfl) (fs_rcv rfl (by assumption)) (m_hand (H := H) (k := 0) hm hX (by omega) (by decide)) (fun v9 sh9 V9 n9 hp9 => ?_)
                obtain ⟨ea9, eb9, ec9, hv9⟩ := hp9
                cases ea9
                obtain rfl := eb9.symm
                obtain rfl := ec9.symm
                cases hv9
                refine fs_bipush (pc2 := 104) rfl rfl rfl ?_
                refine fs_isub (pc2 := 105) rfl rfl rfl ?_
                refine fs_istore (pc2 := 107) rfl rfl rfl (Nat.le_of_ble_eq_true rfl) ?_
                refine fs_iconst (pc2 := 108) rfl rfl rfl ?_
                refine fs_iload_n (pc2 := 109) rfl rfl rfl rfl ?_
                refine fs_imul (pc2 := 110) rfl rfl rfl ?_
                refine fs_iload (pc2 := 112) rfl rfl rfl rfl ?_
                refine fs_iadd (pc2 := 113) rfl rfl rfl ?_
                refine fs_istore (pc2 := 115) rfl rfl rfl (Nat.le_of_ble_eq_true rfl) ?_
                refine fs_iload (pc2 := 117) rfl rfl rfl rfl ?_
                refine fs_iconst (pc2 := 118) rfl rfl rfl ?_
                refine fs_iconst (pc2 := 119) rfl rfl rfl ?_
                try simp (disch := omega) only [nI_lit, pk_mul, nI_add, pk_sub, pk_rem4, nI_clamp, up2_o, up2_s, up2_i, cpV_o, cpV_i, eid, eco]
                refine fs_calls (pc2 := 122) rfl rfl rfl rfl rfl rfl ⟨rfl, rfl⟩ (Nat.le_of_ble_eq_true rfl) (Nat.le_of_ble_eq_true rfl) (Nat.le_of_ble_eq_true rfl) (m_isIn (u := nI (tl H 0) - nI 64) (a := nI 0) (b := nI 3)) (fun v9 sh9 V9 n9 hp9 => ?_)
                obtain ⟨ea9, eb9, ec9, hv9⟩ := hp9
                cases ea9
                obtain rfl := eb9.symm
                obtain rfl := ec9.symm
                cases hv9
                rw [isInB_64 (by omega)]
                first | simp (disch := omega) only [nI_lit, pk_mul, nI_add, pk_sub, pk_rem4, nI_clamp, up2_o, up2_s, up2_i, cpV_o, cpV_i, eid, eco, e6, e10] | simp (disch := omega) only [nI_lit, pk_mul, nI_add, pk_sub, pk_rem4, nI_clamp, up2_o, up2_s, up2_i, cpV_o, cpV_i, eid, eco] | skip
                refine fs_if_eq (pc2 := 125) rfl rfl rfl (fun h122 => ?_) (fun h122 => ?_)
                · have k122 := of_decide_eq_false (bI_0.mp h122)
                  rw [show ho_lv H sid = hoQ (hoN H 13 (H.1 13 + 1)) (H.2.2.2.2.1 ++ [[1, sid, 6, 0] ++ two 2 ++ two (tl H 0) ++ two (tl H 1)]) from by unfold ho_lv; rw [if_neg (by intro z; exact k122 z.1)]] at sg
                  refine fs_aload_n (pc2 := 205) rfl rfl rfl rfl ?_
                  refine fs_iload_n (pc2 := 206) rfl rfl rfl rfl ?_
                  refine fs_iload_n (pc2 := 207) rfl rfl rfl rfl ?_
                  refine fs_iconst (pc2 := 208) rfl rfl rfl ?_
                  refine fs_iconst (pc2 := 209) rfl rfl rfl ?_
                  try simp (disch := omega) only [nI_lit, pk_mul, nI_add, pk_sub, pk_rem4, nI_clamp, up2_o, up2_s, up2_i, cpV_o, cpV_i, eid, eco]
                  refine fs_callv (pc2 := 212) rfl rfl rfl rfl ⟨rfl, rfl⟩ (Nat.le_of_ble_eq_true rfl) (Nat.le_of_ble_eq_true rfl) (Nat.le_of_ble_eq_true rfl) (fs_rcv rfl (by assumption)) (m_reject hm hM hh (sid := sid) (rs := 2) (ms := two (tl H 0) ++ two (tl H 1)) lid (by decide) (by simp [two]) hms hT) (fun v9 sh9 V9 n9 hp9 => ?_)
                  obtain ⟨ea9, eb9, ec9, hM2, kp2⟩ := hp9
                  cases ea9
                  obtain rfl := eb9.symm
                  obtain rfl := ec9.symm
                  refine fs_goto rfl rfl ?_
                  try simp (disch := omega) only [nI_lit, pk_mul, nI_add, pk_sub, pk_rem4, nI_clamp, up2_o, up2_s, up2_i, cpV_o, cpV_i, eid, eco]
                  refine fs_ret rfl rfl ?_
                  rw [sg] at hP
                  exact hP _ _ _ _ ⟨rfl, rfl, rfl, hM2, kp2⟩
                · have k122 := of_decide_eq_true (bI_t h122)
                  obtain ⟨e6, l6⟩ := (hCC (tl H 0 - 64) (by omega)).num (1, 6) (by decide)
                  obtain ⟨e10, l10⟩ := (hCC (tl H 0 - 64) (by omega)).num (6, 10) (by decide)
                  dsimp only at e6 l6 e10 l10
                  refine fs_aload_n (pc2 := 126) rfl rfl rfl rfl ?_
                  refine fs_getr (pc2 := 129) rfl rfl rfl (by assumption) rfl ?_
                  refine fs_iload (pc2 := 131) rfl rfl rfl rfl ?_
                  first | simp (disch := omega) only [nI_lit, pk_mul, nI_add, pk_sub, pk_rem4, nI_clamp, up2_o, up2_s, up2_i, cpV_o, cpV_i, eid, eco, e6, e10] | simp (disch := omega) only [nI_lit, pk_mul, nI_add, pk_sub, pk_rem4, nI_clamp, up2_o, up2_s, up2_i, cpV_o, cpV_i, eid, eco] | skip
                  refine fs_iald (pc2 := 132) rfl rfl rfl (by assumption) (vp_in_nI (by omega) (by decide)) ?_
                  refine fs_iconst (pc2 := 133) rfl rfl rfl ?_
                  first | simp (disch := omega) only [nI_lit, pk_mul, nI_add, pk_sub, pk_rem4, nI_clamp, up2_o, up2_s, up2_i, cpV_o, cpV_i, eid, eco, e6, e10] | simp (disch := omega) only [nI_lit, pk_mul, nI_add, pk_sub, pk_rem4, nI_clamp, up2_o, up2_s, up2_i, cpV_o, cpV_i, eid, eco] | skip
                  refine fs_icmp_eq (pc2 := 136) rfl rfl rfl (fun h133 => ?_) (fun h133 => ?_)
                  · have k133 : (H.2.1 (tl H 0 - 64)).1 1 = 2 := c_eq (b := 2) h133 rfl rfl
                    refine fs_aload_n (pc2 := 148) rfl rfl rfl rfl ?_
                    refine fs_getr (pc2 := 151) rfl rfl rfl (by assumption) rfl ?_
                    refine fs_iload (pc2 := 153) rfl rfl rfl rfl ?_
                    first | simp (disch := omega) only [nI_lit, pk_mul, nI_add, pk_sub, pk_rem4, nI_clamp, up2_o, up2_s, up2_i, cpV_o, cpV_i, eid, eco, e6, e10] | simp (disch := omega) only [nI_lit, pk_mul, nI_add, pk_sub, pk_rem4, nI_clamp, up2_o, up2_s, up2_i, cpV_o, cpV_i, eid, eco] | skip
                    refine fs_iald (pc2 := 154) rfl rfl rfl (by assumption) (vp_in_nI (by omega) (by decide)) ?_
                    refine fs_aload_n (pc2 := 155) rfl rfl rfl rfl ?_
                    refine fs_bipush (pc2 := 157) rfl rfl rfl ?_
                    first | simp (disch := omega) only [nI_lit, pk_mul, nI_add, pk_sub, pk_rem4, nI_clamp, up2_o, up2_s, up2_i, cpV_o, cpV_i, eid, eco, e6, e10] | simp (disch := omega) only [nI_lit, pk_mul, nI_add, pk_sub, pk_rem4, nI_clamp, up2_o, up2_s, up2_i, cpV_o, cpV_i, eid, eco] | skip
                    refine fs_callv (pc2 := 160) rfl rfl rfl rfl ⟨rfl, rfl⟩ (Nat.le_of_ble_eq_true rfl) (Nat.le_of_ble_eq_true rfl) (Nat.le_of_ble_eq_true rfl) (fs_rcv rfl (by assumption)) (m_hand (H := H) (k := 1) hm hX (by omega) (by decide)) (fun v9 sh9 V9 n9 hp9 => ?_)
                    obtain ⟨ea9, eb9, ec9, hv9⟩ := hp9
                    cases ea9
                    obtain rfl := eb9.symm
                    obtain rfl := ec9.symm
                    cases hv9
                    first | simp (disch := omega) only [nI_lit, pk_mul, nI_add, pk_sub, pk_rem4, nI_clamp, up2_o, up2_s, up2_i, cpV_o, cpV_i, eid, eco, e6, e10] | simp (disch := omega) only [nI_lit, pk_mul, nI_add, pk_sub, pk_rem4, nI_clamp, up2_o, up2_s, up2_i, cpV_o, cpV_i, eid, eco] | skip
                    refine fs_icmp_ne (pc2 := 163) rfl rfl rfl (fun h160 => ?_) (fun h160 => ?_)
                    · have k160 : (H.2.1 (tl H 0 - 64)).1 6 ≠ tl H 1 := c_ne h160 rfl rfl
                      rw [show ho_lv H sid = hoQ (hoN H 13 (H.1 13 + 1)) (H.2.2.2.2.1 ++ [[1, sid, 6, 0] ++ two 2 ++ two (tl H 0) ++ two (tl H 1)]) from by unfold ho_lv; rw [if_neg (by intro z; have := z.2; simp [ch_far, k160] at this)]] at sg
                      refine fs_aload_n (pc2 := 205) rfl rfl rfl rfl ?_
                      refine fs_iload_n (pc2 := 206) rfl rfl rfl rfl ?_
                      refine fs_iload_n (pc2 := 207) rfl rfl rfl rfl ?_
                      refine fs_iconst (pc2 := 208) rfl rfl rfl ?_
                      refine fs_iconst (pc2 := 209) rfl rfl rfl ?_
                      try simp (disch := omega) only [nI_lit, pk_mul, nI_add, pk_sub, pk_rem4, nI_clamp, up2_o, up2_s, up2_i, cpV_o, cpV_i, eid, eco]
                      refine fs_callv (pc2 := 212) rfl rfl rfl rfl ⟨rfl, rfl⟩ (Nat.le_of_ble_eq_true rfl) (Nat.le_of_ble_eq_true rfl) (Nat.le_of_ble_eq_true rfl) (fs_rcv rfl (by assumption)) (m_reject hm hM hh (sid := sid) (rs := 2) (ms := two (tl H 0) ++ two (tl H 1)) lid (by decide) (by simp [two]) hms hT) (fun v9 sh9 V9 n9 hp9 => ?_)
                      obtain ⟨ea9, eb9, ec9, hM2, kp2⟩ := hp9
                      cases ea9
                      obtain rfl := eb9.symm
                      obtain rfl := ec9.symm
                      refine fs_goto rfl rfl ?_
                      try simp (disch := omega) only [nI_lit, pk_mul, nI_add, pk_sub, pk_rem4, nI_clamp, up2_o, up2_s, up2_i, cpV_o, cpV_i, eid, eco]
                      refine fs_ret rfl rfl ?_
                      rw [sg] at hP
                      exact hP _ _ _ _ ⟨rfl, rfl, rfl, hM2, kp2⟩
                    · have k160 : (H.2.1 (tl H 0 - 64)).1 6 = tl H 1 := c_eq h160 rfl rfl
                      rw [show ho_lv H sid = hoQ (hoC H (tl H 0 - 64) (ch_close (H.2.1 (tl H 0 - 64)))) (H.2.2.2.2.1 ++ [[7, sid, 4, 0] ++ two (tl H 0) ++ two (tl H 1)]) from by unfold ho_lv; rw [if_pos ⟨k122, by simp [ch_far, k160, k133]⟩]] at sg
                      refine fs_aload_n (pc2 := 164) rfl rfl rfl rfl ?_
                      refine fs_iload (pc2 := 166) rfl rfl rfl rfl ?_
                      try simp (disch := omega) only [nI_lit, pk_mul, nI_add, pk_sub, pk_rem4, nI_clamp, up2_o, up2_s, up2_i, cpV_o, cpV_i, eid, eco]
                      refine fs_callv (pc2 := 169) rfl rfl rfl rfl ⟨rfl, rfl⟩ (Nat.le_of_ble_eq_true rfl) (Nat.le_of_ble_eq_true rfl) (Nat.le_of_ble_eq_true rfl) (fs_rcv rfl (by assumption)) (m_close hm hM hh (k := tl H 0 - 64) (by omega)) (fun v9 sh9 V9 n9 hp9 => ?_)
                      obtain ⟨ea9, eb9, ec9, hM4, kp4⟩ := hp9
                      cases ea9
                      obtain rfl := eb9.symm
                      obtain rfl := ec9.symm
                      refine fs_aload_n (pc2 := 170) rfl rfl rfl rfl ?_
                      refine fs_bipush (pc2 := 172) rfl rfl rfl ?_
                      refine fs_iload_n (pc2 := 173) rfl rfl rfl rfl ?_
                      refine fs_iconst (pc2 := 174) rfl rfl rfl ?_
                      try simp (disch := omega) only [nI_lit, pk_mul, nI_add, pk_sub, pk_rem4, nI_clamp, up2_o, up2_s, up2_i, cpV_o, cpV_i, eid, eco]
                      refine fs_callv (pc2 := 177) rfl rfl rfl rfl ⟨rfl, rfl⟩ (Nat.le_of_ble_eq_true rfl) (Nat.le_of_ble_eq_true rfl) (Nat.le_of_ble_eq_true rfl) (fs_rcv rfl (by assumption)) (m_begin hm hM4 (co := 7) (sid := sid) (l := 4) (by decide) lid (by decide)) (fun v9 sh9 V9 n9 hp9 => ?_)
                      obtain ⟨ea9, eb9, ec9, hM5, hX5, kh5x, kf5, ko5⟩ := hp9
                      cases ea9
                      obtain rfl := eb9.symm
                      obtain rfl := ec9.symm
                      have kp5 := kp4.trans ⟨kf5, kh5x, ko5⟩
                      have kh5 := kp5.2.1
                      refine fs_aload_n (pc2 := 178) rfl rfl rfl rfl ?_
                      refine fs_aload_n (pc2 := 179) rfl rfl rfl rfl ?_
                      refine fs_iconst (pc2 := 180) rfl rfl rfl ?_
                      try simp (disch := omega) only [nI_lit, pk_mul, nI_add, pk_sub, pk_rem4, nI_clamp, up2_o, up2_s, up2_i, cpV_o, cpV_i, eid, eco]
                      refine fs_callv (pc2 := 183) rfl rfl rfl rfl ⟨rfl, rfl⟩ (Nat.le_of_ble_eq_true rfl) (Nat.le_of_ble_eq_true rfl) (Nat.le_of_ble_eq_true rfl) (fs_rcv rfl (by assumption)) (m_hand (H := H) (k := 0) hm (hX.kept kh5) (by omega) (by decide)) (fun v9 sh9 V9 n9 hp9 => ?_)
                      obtain ⟨ea9, eb9, ec9, hv9⟩ := hp9
                      cases ea9
                      obtain rfl := eb9.symm
                      obtain rfl := ec9.symm
                      cases hv9
                      try simp (disch := omega) only [nI_lit, pk_mul, nI_add, pk_sub, pk_rem4, nI_clamp, up2_o, up2_s, up2_i, cpV_o, cpV_i, eid, eco]
                      refine fs_callv (pc2 := 186) rfl rfl rfl rfl ⟨rfl, rfl⟩ (Nat.le_of_ble_eq_true rfl) (Nat.le_of_ble_eq_true rfl) (Nat.le_of_ble_eq_true rfl) (fs_rcv rfl (by assumption)) (m_two hm hM5 hX5 (by simp) l0) (fun v9 sh9 V9 n9 hp9 => ?_)
                      obtain ⟨ea9, eb9, ec9, hM6, hX6, kh6, kf6, ko6⟩ := hp9
                      cases ea9
                      obtain rfl := eb9.symm
                      obtain rfl := ec9.symm
                      have kp6 := kp5.trans ⟨kf6, kh6, ko6⟩
                      refine fs_aload_n (pc2 := 187) rfl rfl rfl rfl ?_
                      refine fs_aload_n (pc2 := 188) rfl rfl rfl rfl ?_
                      refine fs_bipush (pc2 := 190) rfl rfl rfl ?_
                      try simp (disch := omega) only [nI_lit, pk_mul, nI_add, pk_sub, pk_rem4, nI_clamp, up2_o, up2_s, up2_i, cpV_o, cpV_i, eid, eco]
                      refine fs_callv (pc2 := 193) rfl rfl rfl rfl ⟨rfl, rfl⟩ (Nat.le_of_ble_eq_true rfl) (Nat.le_of_ble_eq_true rfl) (Nat.le_of_ble_eq_true rfl) (fs_rcv rfl (by assumption)) (m_hand (H := H) (k := 1) hm (hX.kept (kh6.trans kh5)) (by omega) (by decide)) (fun v9 sh9 V9 n9 hp9 => ?_)
                      obtain ⟨ea9, eb9, ec9, hv9⟩ := hp9
                      cases ea9
                      obtain rfl := eb9.symm
                      obtain rfl := ec9.symm
                      cases hv9
                      try simp (disch := omega) only [nI_lit, pk_mul, nI_add, pk_sub, pk_rem4, nI_clamp, up2_o, up2_s, up2_i, cpV_o, cpV_i, eid, eco]
                      refine fs_callv (pc2 := 196) rfl rfl rfl rfl ⟨rfl, rfl⟩ (Nat.le_of_ble_eq_true rfl) (Nat.le_of_ble_eq_true rfl) (Nat.le_of_ble_eq_true rfl) (fs_rcv rfl (by assumption)) (m_two hm hM6 hX6 (by simp) l1) (fun v9 sh9 V9 n9 hp9 => ?_)
                      obtain ⟨ea9, eb9, ec9, hM7, hX7, kh7, kf7, ko7⟩ := hp9
                      cases ea9
                      obtain rfl := eb9.symm
                      obtain rfl := ec9.symm
                      have kp7 := kp6.trans ⟨kf7, kh7, ko7⟩
                      refine fs_aload_n (pc2 := 197) rfl rfl rfl rfl ?_
                      refine fs_iload_n (pc2 := 198) rfl rfl rfl rfl ?_
                      try simp (disch := omega) only [nI_lit, pk_mul, nI_add, pk_sub, pk_rem4, nI_clamp, up2_o, up2_s, up2_i, cpV_o, cpV_i, eid, eco]
                      refine fs_callv (pc2 := 201) rfl rfl rfl rfl ⟨rfl, rfl⟩ (Nat.le_of_ble_eq_true rfl) (Nat.le_of_ble_eq_true rfl) (Nat.le_of_ble_eq_true rfl) (fs_rcv rfl (by assumption)) (m_wait hm hM7 hh hX7 (by simp) hT) (fun v9 sh9 V9 n9 hp9 => ?_)
                      obtain ⟨ea9, eb9, ec9, hM8, kp8⟩ := hp9
                      cases ea9
                      obtain rfl := eb9.symm
                      obtain rfl := ec9.symm
                      refine fs_goto rfl rfl ?_
                      refine fs_goto rfl rfl ?_
                      try simp (disch := omega) only [nI_lit, pk_mul, nI_add, pk_sub, pk_rem4, nI_clamp, up2_o, up2_s, up2_i, cpV_o, cpV_i, eid, eco]
                      refine fs_ret rfl rfl ?_
                      rw [sg] at hP
                      exact hP _ _ _ _ ⟨rfl, rfl, rfl, hM8, kp7.trans kp8⟩
                  · have k133 : (H.2.1 (tl H 0 - 64)).1 1 ≠ 2 := c_ne (b := 2) h133 rfl rfl
                    refine fs_aload_n (pc2 := 137) rfl rfl rfl rfl ?_
                    refine fs_getr (pc2 := 140) rfl rfl rfl (by assumption) rfl ?_
                    refine fs_iload (pc2 := 142) rfl rfl rfl rfl ?_
                    first | simp (disch := omega) only [nI_lit, pk_mul, nI_add, pk_sub, pk_rem4, nI_clamp, up2_o, up2_s, up2_i, cpV_o, cpV_i, eid, eco, e6, e10] | simp (disch := omega) only [nI_lit, pk_mul, nI_add, pk_sub, pk_rem4, nI_clamp, up2_o, up2_s, up2_i, cpV_o, cpV_i, eid, eco] | skip
                    refine fs_iald (pc2 := 143) rfl rfl rfl (by assumption) (vp_in_nI (by omega) (by decide)) ?_
                    refine fs_iconst (pc2 := 144) rfl rfl rfl ?_
                    first | simp (disch := omega) only [nI_lit, pk_mul, nI_add, pk_sub, pk_rem4, nI_clamp, up2_o, up2_s, up2_i, cpV_o, cpV_i, eid, eco, e6, e10] | simp (disch := omega) only [nI_lit, pk_mul, nI_add, pk_sub, pk_rem4, nI_clamp, up2_o, up2_s, up2_i, cpV_o, cpV_i, eid, eco] | skip
                    refine fs_icmp_ne (pc2 := 147) rfl rfl rfl (fun h144 => ?_) (fun h144 => ?_)
                    · have k144 : (H.2.1 (tl H 0 - 64)).1 1 ≠ 3 := c_ne (b := 3) h144 rfl rfl
                      rw [show ho_lv H sid = hoQ (hoN H 13 (H.1 13 + 1)) (H.2.2.2.2.1 ++ [[1, sid, 6, 0] ++ two 2 ++ two (tl H 0) ++ two (tl H 1)]) from by unfold ho_lv; rw [if_neg (by intro z; have := z.2; simp [ch_far, k133, k144] at this)]] at sg
                      refine fs_aload_n (pc2 := 205) rfl rfl rfl rfl ?_
                      refine fs_iload_n (pc2 := 206) rfl rfl rfl rfl ?_
                      refine fs_iload_n (pc2 := 207) rfl rfl rfl rfl ?_
                      refine fs_iconst (pc2 := 208) rfl rfl rfl ?_
                      refine fs_iconst (pc2 := 209) rfl rfl rfl ?_
                      try simp (disch := omega) only [nI_lit, pk_mul, nI_add, pk_sub, pk_rem4, nI_clamp, up2_o, up2_s, up2_i, cpV_o, cpV_i, eid, eco]
                      refine fs_callv (pc2 := 212) rfl rfl rfl rfl ⟨rfl, rfl⟩ (Nat.le_of_ble_eq_true rfl) (Nat.le_of_ble_eq_true rfl) (Nat.le_of_ble_eq_true rfl) (fs_rcv rfl (by assumption)) (m_reject hm hM hh (sid := sid) (rs := 2) (ms := two (tl H 0) ++ two (tl H 1)) lid (by decide) (by simp [two]) hms hT) (fun v9 sh9 V9 n9 hp9 => ?_)
                      obtain ⟨ea9, eb9, ec9, hM2, kp2⟩ := hp9
                      cases ea9
                      obtain rfl := eb9.symm
                      obtain rfl := ec9.symm
                      refine fs_goto rfl rfl ?_
                      try simp (disch := omega) only [nI_lit, pk_mul, nI_add, pk_sub, pk_rem4, nI_clamp, up2_o, up2_s, up2_i, cpV_o, cpV_i, eid, eco]
                      refine fs_ret rfl rfl ?_
                      rw [sg] at hP
                      exact hP _ _ _ _ ⟨rfl, rfl, rfl, hM2, kp2⟩
                    · have k144 : (H.2.1 (tl H 0 - 64)).1 1 = 3 := c_eq (b := 3) h144 rfl rfl
                      refine fs_aload_n (pc2 := 148) rfl rfl rfl rfl ?_
                      refine fs_getr (pc2 := 151) rfl rfl rfl (by assumption) rfl ?_
                      refine fs_iload (pc2 := 153) rfl rfl rfl rfl ?_
                      first | simp (disch := omega) only [nI_lit, pk_mul, nI_add, pk_sub, pk_rem4, nI_clamp, up2_o, up2_s, up2_i, cpV_o, cpV_i, eid, eco, e6, e10] | simp (disch := omega) only [nI_lit, pk_mul, nI_add, pk_sub, pk_rem4, nI_clamp, up2_o, up2_s, up2_i, cpV_o, cpV_i, eid, eco] | skip
                      refine fs_iald (pc2 := 154) rfl rfl rfl (by assumption) (vp_in_nI (by omega) (by decide)) ?_
                      refine fs_aload_n (pc2 := 155) rfl rfl rfl rfl ?_
                      refine fs_bipush (pc2 := 157) rfl rfl rfl ?_
                      first | simp (disch := omega) only [nI_lit, pk_mul, nI_add, pk_sub, pk_rem4, nI_clamp, up2_o, up2_s, up2_i, cpV_o, cpV_i, eid, eco, e6, e10] | simp (disch := omega) only [nI_lit, pk_mul, nI_add, pk_sub, pk_rem4, nI_clamp, up2_o, up2_s, up2_i, cpV_o, cpV_i, eid, eco] | skip
                      refine fs_callv (pc2 := 160) rfl rfl rfl rfl ⟨rfl, rfl⟩ (Nat.le_of_ble_eq_true rfl) (Nat.le_of_ble_eq_true rfl) (Nat.le_of_ble_eq_true rfl) (fs_rcv rfl (by assumption)) (m_hand (H := H) (k := 1) hm hX (by omega) (by decide)) (fun v9 sh9 V9 n9 hp9 => ?_)
                      obtain ⟨ea9, eb9, ec9, hv9⟩ := hp9
                      cases ea9
                      obtain rfl := eb9.symm
                      obtain rfl := ec9.symm
                      cases hv9
                      first | simp (disch := omega) only [nI_lit, pk_mul, nI_add, pk_sub, pk_rem4, nI_clamp, up2_o, up2_s, up2_i, cpV_o, cpV_i, eid, eco, e6, e10] | simp (disch := omega) only [nI_lit, pk_mul, nI_add, pk_sub, pk_rem4, nI_clamp, up2_o, up2_s, up2_i, cpV_o, cpV_i, eid, eco] | skip
                      refine fs_icmp_ne (pc2 := 163) rfl rfl rfl (fun h160 => ?_) (fun h160 => ?_)
                      · have k160 : (H.2.1 (tl H 0 - 64)).1 6 ≠ tl H 1 := c_ne h160 rfl rfl
                        rw [show ho_lv H sid = hoQ (hoN H 13 (H.1 13 + 1)) (H.2.2.2.2.1 ++ [[1, sid, 6, 0] ++ two 2 ++ two (tl H 0) ++ two (tl H 1)]) from by unfold ho_lv; rw [if_neg (by intro z; have := z.2; simp [ch_far, k160] at this)]] at sg
                        refine fs_aload_n (pc2 := 205) rfl rfl rfl rfl ?_
                        refine fs_iload_n (pc2 := 206) rfl rfl rfl rfl ?_
                        refine fs_iload_n (pc2 := 207) rfl rfl rfl rfl ?_
                        refine fs_iconst (pc2 := 208) rfl rfl rfl ?_
                        refine fs_iconst (pc2 := 209) rfl rfl rfl ?_
                        try simp (disch := omega) only [nI_lit, pk_mul, nI_add, pk_sub, pk_rem4, nI_clamp, up2_o, up2_s, up2_i, cpV_o, cpV_i, eid, eco]
                        refine fs_callv (pc2 := 212) rfl rfl rfl rfl ⟨rfl, rfl⟩ (Nat.le_of_ble_eq_true rfl) (Nat.le_of_ble_eq_true rfl) (Nat.le_of_ble_eq_true rfl) (fs_rcv rfl (by assumption)) (m_reject hm hM hh (sid := sid) (rs := 2) (ms := two (tl H 0) ++ two (tl H 1)) lid (by decide) (by simp [two]) hms hT) (fun v9 sh9 V9 n9 hp9 => ?_)
                        obtain ⟨ea9, eb9, ec9, hM2, kp2⟩ := hp9
                        cases ea9
                        obtain rfl := eb9.symm
                        obtain rfl := ec9.symm
                        refine fs_goto rfl rfl ?_
                        try simp (disch := omega) only [nI_lit, pk_mul, nI_add, pk_sub, pk_rem4, nI_clamp, up2_o, up2_s, up2_i, cpV_o, cpV_i, eid, eco]
                        refine fs_ret rfl rfl ?_
                        rw [sg] at hP
                        exact hP _ _ _ _ ⟨rfl, rfl, rfl, hM2, kp2⟩
                      · have k160 : (H.2.1 (tl H 0 - 64)).1 6 = tl H 1 := c_eq h160 rfl rfl
                        rw [show ho_lv H sid = hoQ (hoC H (tl H 0 - 64) (ch_close (H.2.1 (tl H 0 - 64)))) (H.2.2.2.2.1 ++ [[7, sid, 4, 0] ++ two (tl H 0) ++ two (tl H 1)]) from by unfold ho_lv; rw [if_pos ⟨k122, by simp [ch_far, k160, k133, k144]⟩]] at sg
                        refine fs_aload_n (pc2 := 164) rfl rfl rfl rfl ?_
                        refine fs_iload (pc2 := 166) rfl rfl rfl rfl ?_
                        try simp (disch := omega) only [nI_lit, pk_mul, nI_add, pk_sub, pk_rem4, nI_clamp, up2_o, up2_s, up2_i, cpV_o, cpV_i, eid, eco]
                        refine fs_callv (pc2 := 169) rfl rfl rfl rfl ⟨rfl, rfl⟩ (Nat.le_of_ble_eq_true rfl) (Nat.le_of_ble_eq_true rfl) (Nat.le_of_ble_eq_true rfl) (fs_rcv rfl (by assumption)) (m_close hm hM hh (k := tl H 0 - 64) (by omega)) (fun v9 sh9 V9 n9 hp9 => ?_)
                        obtain ⟨ea9, eb9, ec9, hM4, kp4⟩ := hp9
                        cases ea9
                        obtain rfl := eb9.symm
                        obtain rfl := ec9.symm
                        refine fs_aload_n (pc2 := 170) rfl rfl rfl rfl ?_
                        refine fs_bipush (pc2 := 172) rfl rfl rfl ?_
                        refine fs_iload_n (pc2 := 173) rfl rfl rfl rfl ?_
                        refine fs_iconst (pc2 := 174) rfl rfl rfl ?_
                        try simp (disch := omega) only [nI_lit, pk_mul, nI_add, pk_sub, pk_rem4, nI_clamp, up2_o, up2_s, up2_i, cpV_o, cpV_i, eid, eco]
                        refine fs_callv (pc2 := 177) rfl rfl rfl rfl ⟨rfl, rfl⟩ (Nat.le_of_ble_eq_true rfl) (Nat.le_of_ble_eq_true rfl) (Nat.le_of_ble_eq_true rfl) (fs_rcv rfl (by assumption)) (m_begin hm hM4 (co := 7) (sid := sid) (l := 4) (by decide) lid (by decide)) (fun v9 sh9 V9 n9 hp9 => ?_)
                        obtain ⟨ea9, eb9, ec9, hM5, hX5, kh5x, kf5, ko5⟩ := hp9
                        cases ea9
                        obtain rfl := eb9.symm
                        obtain rfl := ec9.symm
                        have kp5 := kp4.trans ⟨kf5, kh5x, ko5⟩
                        have kh5 := kp5.2.1
                        refine fs_aload_n (pc2 := 178) rfl rfl rfl rfl ?_
                        refine fs_aload_n (pc2 := 179) rfl rfl rfl rfl ?_
                        refine fs_iconst (pc2 := 180) rfl rfl rfl ?_
                        try simp (disch := omega) only [nI_lit, pk_mul, nI_add, pk_sub, pk_rem4, nI_clamp, up2_o, up2_s, up2_i, cpV_o, cpV_i, eid, eco]
                        refine fs_callv (pc2 := 183) rfl rfl rfl rfl ⟨rfl, rfl⟩ (Nat.le_of_ble_eq_true rfl) (Nat.le_of_ble_eq_true rfl) (Nat.le_of_ble_eq_true rfl) (fs_rcv rfl (by assumption)) (m_hand (H := H) (k := 0) hm (hX.kept kh5) (by omega) (by decide)) (fun v9 sh9 V9 n9 hp9 => ?_)
                        obtain ⟨ea9, eb9, ec9, hv9⟩ := hp9
                        cases ea9
                        obtain rfl := eb9.symm
                        obtain rfl := ec9.symm
                        cases hv9
                        try simp (disch := omega) only [nI_lit, pk_mul, nI_add, pk_sub, pk_rem4, nI_clamp, up2_o, up2_s, up2_i, cpV_o, cpV_i, eid, eco]
                        refine fs_callv (pc2 := 186) rfl rfl rfl rfl ⟨rfl, rfl⟩ (Nat.le_of_ble_eq_true rfl) (Nat.le_of_ble_eq_true rfl) (Nat.le_of_ble_eq_true rfl) (fs_rcv rfl (by assumption)) (m_two hm hM5 hX5 (by simp) l0) (fun v9 sh9 V9 n9 hp9 => ?_)
                        obtain ⟨ea9, eb9, ec9, hM6, hX6, kh6, kf6, ko6⟩ := hp9
                        cases ea9
                        obtain rfl := eb9.symm
                        obtain rfl := ec9.symm
                        have kp6 := kp5.trans ⟨kf6, kh6, ko6⟩
                        refine fs_aload_n (pc2 := 187) rfl rfl rfl rfl ?_
                        refine fs_aload_n (pc2 := 188) rfl rfl rfl rfl ?_
                        refine fs_bipush (pc2 := 190) rfl rfl rfl ?_
                        try simp (disch := omega) only [nI_lit, pk_mul, nI_add, pk_sub, pk_rem4, nI_clamp, up2_o, up2_s, up2_i, cpV_o, cpV_i, eid, eco]
                        refine fs_callv (pc2 := 193) rfl rfl rfl rfl ⟨rfl, rfl⟩ (Nat.le_of_ble_eq_true rfl) (Nat.le_of_ble_eq_true rfl) (Nat.le_of_ble_eq_true rfl) (fs_rcv rfl (by assumption)) (m_hand (H := H) (k := 1) hm (hX.kept (kh6.trans kh5)) (by omega) (by decide)) (fun v9 sh9 V9 n9 hp9 => ?_)
                        obtain ⟨ea9, eb9, ec9, hv9⟩ := hp9
                        cases ea9
                        obtain rfl := eb9.symm
                        obtain rfl := ec9.symm
                        cases hv9
                        try simp (disch := omega) only [nI_lit, pk_mul, nI_add, pk_sub, pk_rem4, nI_clamp, up2_o, up2_s, up2_i, cpV_o, cpV_i, eid, eco]
                        refine fs_callv (pc2 := 196) rfl rfl rfl rfl ⟨rfl, rfl⟩ (Nat.le_of_ble_eq_true rfl) (Nat.le_of_ble_eq_true rfl) (Nat.le_of_ble_eq_true rfl) (fs_rcv rfl (by assumption)) (m_two hm hM6 hX6 (by simp) l1) (fun v9 sh9 V9 n9 hp9 => ?_)
                        obtain ⟨ea9, eb9, ec9, hM7, hX7, kh7, kf7, ko7⟩ := hp9
                        cases ea9
                        obtain rfl := eb9.symm
                        obtain rfl := ec9.symm
                        have kp7 := kp6.trans ⟨kf7, kh7, ko7⟩
                        refine fs_aload_n (pc2 := 197) rfl rfl rfl rfl ?_
                        refine fs_iload_n (pc2 := 198) rfl rfl rfl rfl ?_
                        try simp (disch := omega) only [nI_lit, pk_mul, nI_add, pk_sub, pk_rem4, nI_clamp, up2_o, up2_s, up2_i, cpV_o, cpV_i, eid, eco]
                        refine fs_callv (pc2 := 201) rfl rfl rfl rfl ⟨rfl, rfl⟩ (Nat.le_of_ble_eq_true rfl) (Nat.le_of_ble_eq_true rfl) (Nat.le_of_ble_eq_true rfl) (fs_rcv rfl (by assumption)) (m_wait hm hM7 hh hX7 (by simp) hT) (fun v9 sh9 V9 n9 hp9 => ?_)
                        obtain ⟨ea9, eb9, ec9, hM8, kp8⟩ := hp9
                        cases ea9
                        obtain rfl := eb9.symm
                        obtain rfl := ec9.symm
                        refine fs_goto rfl rfl ?_
                        refine fs_goto rfl rfl ?_
                        try simp (disch := omega) only [nI_lit, pk_mul, nI_add, pk_sub, pk_rem4, nI_clamp, up2_o, up2_s, up2_i, cpV_o, cpV_i, eid, eco]
                        refine fs_ret rfl rfl ?_
                        rw [sg] at hP
                        exact hP _ _ _ _ ⟨rfl, rfl, rfl, hM8, kp7.trans kp8⟩
            · have k79 : co = 22 := c_eq (b := 22) h79 rfl rfl
              rw [show ho_sigd H co sid = ho_cred H from by unfold ho_sigd; simp [k79]] at sg
              refine fs_aload_n (pc2 := 83) rfl rfl rfl rfl ?_
              refine fs_iload_n (pc2 := 84) rfl rfl rfl rfl ?_
              try simp (disch := omega) only [nI_lit, pk_mul, nI_add, pk_sub, pk_rem4, nI_clamp, up2_o, up2_s, up2_i, cpV_o, cpV_i, eid, eco]
              refine fs_callv (pc2 := 87) rfl rfl rfl rfl ⟨rfl, rfl⟩ (Nat.le_of_ble_eq_true rfl) (Nat.le_of_ble_eq_true rfl) (Nat.le_of_ble_eq_true rfl) (fs_rcv rfl (by assumption)) (m_credit hm hM hh hX (by omega) hT) (fun v9 sh9 V9 n9 hp9 => ?_)
              obtain ⟨ea9, eb9, ec9, hM2, kp2⟩ := hp9
              cases ea9
              obtain rfl := eb9.symm
              obtain rfl := ec9.symm
              refine fs_goto rfl rfl ?_
              try simp (disch := omega) only [nI_lit, pk_mul, nI_add, pk_sub, pk_rem4, nI_clamp, up2_o, up2_s, up2_i, cpV_o, cpV_i, eid, eco]
              refine fs_ret rfl rfl ?_
              rw [sg] at hP
              exact hP _ _ _ _ ⟨rfl, rfl, rfl, hM2, kp2⟩
          · have k63 : co = 20 := c_eq (b := 20) h63 rfl rfl
            rw [show ho_sigd H co sid = ho_req H sid from by unfold ho_sigd; simp [k63]] at sg
            refine fs_aload_n (pc2 := 67) rfl rfl rfl rfl ?_
            refine fs_iload_n (pc2 := 68) rfl rfl rfl rfl ?_
            refine fs_iload_n (pc2 := 69) rfl rfl rfl rfl ?_
            try simp (disch := omega) only [nI_lit, pk_mul, nI_add, pk_sub, pk_rem4, nI_clamp, up2_o, up2_s, up2_i, cpV_o, cpV_i, eid, eco]
            refine fs_callv (pc2 := 72) rfl rfl rfl rfl ⟨rfl, rfl⟩ (Nat.le_of_ble_eq_true rfl) (Nat.le_of_ble_eq_true rfl) (Nat.le_of_ble_eq_true rfl) (fs_rcv rfl (by assumption)) (m_request hm hM hh hX (by omega) lid hT) (fun v9 sh9 V9 n9 hp9 => ?_)
            obtain ⟨ea9, eb9, ec9, hM2, kp2⟩ := hp9
            cases ea9
            obtain rfl := eb9.symm
            obtain rfl := ec9.symm
            refine fs_goto rfl rfl ?_
            try simp (disch := omega) only [nI_lit, pk_mul, nI_add, pk_sub, pk_rem4, nI_clamp, up2_o, up2_s, up2_i, cpV_o, cpV_i, eid, eco]
            refine fs_ret rfl rfl ?_
            rw [sg] at hP
            exact hP _ _ _ _ ⟨rfl, rfl, rfl, hM2, kp2⟩
        · have k47 : sigOK co len = false := bI_0.mp (by first | exact h47 | exact Decidable.not_not.mp h47)
          rw [if_pos (Or.inr (by rw [show H.2.2.2.2.2.2.length - 8 = len by omega]; exact k47))] at sg
          refine fs_aload_n (pc2 := 51) rfl rfl rfl rfl ?_
          refine fs_iload_n (pc2 := 52) rfl rfl rfl rfl ?_
          refine fs_iload_n (pc2 := 53) rfl rfl rfl rfl ?_
          refine fs_iconst (pc2 := 54) rfl rfl rfl ?_
          refine fs_iconst (pc2 := 55) rfl rfl rfl ?_
          try simp (disch := omega) only [nI_lit, pk_mul, nI_add, pk_sub, pk_rem4, nI_clamp, up2_o, up2_s, up2_i, cpV_o, cpV_i, eid, eco]
          refine fs_callv (pc2 := 58) rfl rfl rfl rfl ⟨rfl, rfl⟩ (Nat.le_of_ble_eq_true rfl) (Nat.le_of_ble_eq_true rfl) (Nat.le_of_ble_eq_true rfl) (fs_rcv rfl (by assumption)) (m_reject hm hM hh (sid := sid) (rs := 0) (ms := []) lid (by decide) (by simp) (fun j hj => by simp at hj) hT) (fun v9 sh9 V9 n9 hp9 => ?_)
          obtain ⟨ea9, eb9, ec9, hM2, kp2⟩ := hp9
          cases ea9
          obtain rfl := eb9.symm
          obtain rfl := ec9.symm
          try simp (disch := omega) only [nI_lit, pk_mul, nI_add, pk_sub, pk_rem4, nI_clamp, up2_o, up2_s, up2_i, cpV_o, cpV_i, eid, eco]
          refine fs_ret rfl rfl ?_
          rw [sg] at hP
          exact hP _ _ _ _ ⟨rfl, rfl, rfl, hM2, kp2⟩
    · have k28 : sid = 0 := c_eq (b := 0) h28 rfl rfl
      rw [if_pos (by omega)] at sg
      try simp (disch := omega) only [nI_lit, pk_mul, nI_add, pk_sub, pk_rem4, nI_clamp, up2_o, up2_s, up2_i, cpV_o, cpV_i, eid, eco]
      refine fs_ret rfl rfl ?_
      rw [sg] at hP
      exact hP _ _ _ _ ⟨rfl, rfl, rfl, hMm, KP.refl⟩
end MHAND
