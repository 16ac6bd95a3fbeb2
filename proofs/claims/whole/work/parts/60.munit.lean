/-- fault and all that is not the model's are as they were -/
def KO (mb : Nat) (V V' : fl_V) : Prop := V' mb 0 = V mb 0 ∧ OU mb V V'
theorem KP.ko {mb : Nat} {V V' : fl_V} (h : KP mb V V') : KO mb V V' := ⟨h.1, h.2.2⟩
theorem KO.refl {mb : Nat} {V : fl_V} : KO mb V V := ⟨rfl, OU.refl⟩
theorem KO.trans {mb : Nat} {V V' V2 : fl_V} (h1 : KO mb V V') (h2 : KO mb V' V2) : KO mb V V2 := ⟨h2.1.trans h1.1, h1.2.trans h2.2⟩
theorem KO.up {mb j i : Nat} {v : Int32} {V V' : fl_V} (h : KO mb V V') (hj : 0 < j ∧ j < 46) : KO mb V (up2 V' (mb + j) i v) := ⟨by rw [up2_o (by omega)]; exact h.1, h.2.up hj.2⟩
theorem KO.cp {mb j b i : Nat} {f : Nat → Int32} {V V' : fl_V} (h : KO mb V V') (hj : 0 < j ∧ j < 46) : KO mb V (cpV V' (mb + j) b i f) := ⟨by rw [cpV_o (by omega)]; exact h.1, h.2.cp hj.2⟩
theorem cpV_10 {V : fl_V} {A i : Nat} {f : Nat → Int32} {v : Int32} (h : v = f i) : up2 (cpV V A 0 i f) A i v = cpV V A 0 (i + 1) f := by
  have := cpV_1 (V := V) (A := A) (b := 0) (i := i) (f := f) h
  rwa [Nat.zero_add] at this
/-- what is wanted of the channels of a host -/
def HI (H : Ho) : Prop := ∀ k, k < 4 → (H.2.1 k).1 3 ≤ 100 ∧ (∀ D, (H.2.1 k).2.1 = some D → D ≤ 100) ∧ ((H.2.1 k).2.1 = none → (H.2.1 k).2.2.2.2 = []) ∧ ((H.2.1 k).1 1 = 1 → (H.2.1 k).2.2.2.1 = [])
theorem MN.put {V V' : fl_V} {mb h : Nat} {N : Nat → Nat} (hM : MN V mb h N) (j : Nat) (hj : j = 11 ∨ j = 12 ∨ j = 13) (v : Nat) (hV : V' = up2 V (mb + 30 + j) h (nI v)) : MN V' mb h (va_up N j v) := by
  obtain ⟨n1, n2, n3, n4, n5, n6⟩ := hM
  subst hV
  rcases hj with rfl | rfl | rfl
  · exact ⟨by rw [up2_o (by omega), va_up_ne _ _ (by decide)]; exact n1, by rw [va_up_ne _ _ (by decide)]; exact n2, by rw [up2_o (by omega), va_up_ne _ _ (by decide)]; exact n3, by rw [va_up_self]; exact up2_s, by rw [up2_o (by omega), va_up_ne _ _ (by decide)]; exact n5, by rw [up2_o (by omega), va_up_ne _ _ (by decide)]; exact n6⟩
  · exact ⟨by rw [up2_o (by omega), va_up_ne _ _ (by decide)]; exact n1, by rw [va_up_ne _ _ (by decide)]; exact n2, by rw [up2_o (by omega), va_up_ne _ _ (by decide)]; exact n3, by rw [up2_o (by omega), va_up_ne _ _ (by decide)]; exact n4, by rw [va_up_self]; exact up2_s, by rw [up2_o (by omega), va_up_ne _ _ (by decide)]; exact n6⟩
  · exact ⟨by rw [up2_o (by omega), va_up_ne _ _ (by decide)]; exact n1, by rw [va_up_ne _ _ (by decide)]; exact n2, by rw [up2_o (by omega), va_up_ne _ _ (by decide)]; exact n3, by rw [up2_o (by omega), va_up_ne _ _ (by decide)]; exact n4, by rw [up2_o (by omega), va_up_ne _ _ (by decide)]; exact n5, by rw [va_up_self]; exact up2_s⟩
theorem ML.bytes {r : Nat → Int32} {b0 : Nat} {xs : List Nat} (h : ML r b0 xs) (j : Nat) : xs.getD j 0 < 256 := by
  by_cases q : j < xs.length
  · exact (h.at q).2
  · rw [List.getD_eq_getElem?_getD, List.getElem?_eq_none (by omega)]; decide
section MUNIT
variable {cy : Nat → ClassId} {z0 : Nat} {ext : Nat → Nat → List Value → ev_H → Nat → ev_P → Prop} {d : Nat} {sh : fl_S} {V : fl_V} {n mb : Nat} {T : Nat → Nat} {S : List Nat} {HH : Nat → Ho} {H : Ho} {h k : Nat}
set_option maxRecDepth 100000 in
set_option maxHeartbeats 4000000 in
theorem m_unit (hm : isMo sh mb) (hM : Mo V mb T S (va_up HH h H)) (hh : h < 2) (l4 : 4 ≤ H.2.2.2.2.2.2.length) (hI : HI H) (hT : ∀ i, i < 2 → T i < 2048) : fl_M cy z0 ext (d + 6) m_X7_unit [.ref (z0 + mb), .int (nI h)] sh V n (fun v sh' V' n' => v = none ∧ sh' = sh ∧ n' = n ∧ Mo V' mb (fun i => T i + 1) S (va_up HH h (ho_unitH H)) ∧ KO mb V V') := by
  have m0 := hm.1
  have a6 : sh (mb + 6) = some (.inl (1, 8, none)) := hm.2 5 (1, 8) rfl
  have a39 : sh (mb + 39) = some (.inl (1, 2, none)) := hm.2 38 (1, 2) rfl
  have a40 : sh (mb + 40) = some (.inl (1, 320, none)) := hm.2 39 (1, 320) rfl
  have a41 : sh (mb + 41) = some (.inl (1, 2, none)) := hm.2 40 (1, 2) rfl
  have a42 : sh (mb + 42) = some (.inl (1, 2, none)) := hm.2 41 (1, 2) rfl
  have a44 : sh (mb + 44) = some (.inl (1, 32, none)) := hm.2 43 (1, 32) rfl
  have hN := (hM.host hh).1
  have e41 := hN.2.2.2.1
  obtain ⟨e39, l128, hG⟩ := id (hM.host hh).2.2.2.2.2.1
  obtain ⟨G, hGd⟩ : ∃ G, G = H.2.2.2.2.2.2 := ⟨_, rfl⟩
  rw [← hGd] at e39 l128 hG l4
  obtain ⟨b2, c2⟩ := hG.at (j := 2) (by omega)
  obtain ⟨b3, c3⟩ := hG.at (j := 3) (by omega)
  obtain ⟨num, hnum⟩ : ∃ x, x = num2 G 2 := ⟨_, rfl⟩
  have enum : num = G.getD 2 0 + 256 * G.getD 3 0 := by rw [hnum]; unfold num2; rw [if_pos (by omega)]
  have eor : nI (G.getD 2 0) ||| (nI (G.getD 3 0) <<< (nI 8 &&& nI 31)) = nI num := by rw [enum]; exact nI_two c2 (by omega)
  have lnum : num < 65536 := by omega
  have eU : ho_unitH H = hoG (if num = 5 then ho_sig (hoN H 11 (H.1 11 + 1)) else ho_seg (hoN H 11 (H.1 11 + 1)) num) [] := by unfold ho_unitH; rw [← hGd, ← hnum]
  have hM1 := hM.pN hh (FM.refl.up (j := 41) (i := h) (v := nI (H.1 11 + 1)) (by simp [own])) (hN.put 11 (Or.inl rfl) (H.1 11 + 1) rfl) (va_up_ne _ _ (by decide))
  have hM2 := hM1.pG (G := []) hh (FM.refl.up (j := 39) (i := h) (v := nI 0) (by simp [own])) ⟨up2_s, by simp, fun j b hj => by simp at hj⟩
  obtain ⟨V2, hV2⟩ : ∃ V2, V2 = up2 (up2 V (mb + 41) h (nI (H.1 11 + 1))) (mb + 39) h (nI 0) := ⟨_, rfl⟩
  rw [← hV2] at hM2
  have ko2 : KO mb V V2 := by rw [hV2]; exact (KO.refl.up (by decide)).up (by decide)
  have r40 : V2 (mb + 40) = V (mb + 40) := by rw [hV2]; simp (disch := omega) only [up2_o]
  refine fs_body rfl rfl (fun Ret hP => ?_)
  have loop : num = 5 → ∀ j i, i + j = 32 → fl_R cy z0 (ev_M cy ext (d + 5)) 7 0 0 6 none kc_X7_unit Ret 63 [(0, .ref (z0 + mb)), (1, .int (nI h)), (2, .int (nI (160 * h))), (3, .int (nI (G.length - 4))), (4, .int (nI num)), (5, .int (nI i))] [] sh (cpV V2 (mb + 44) 0 i (fun j => if j < G.length - 4 then V (mb + 40) (160 * h + 4 + j) else nI 0)) n 0 0 := by
    intro q5 j
    rw [eU, if_pos q5] at hP
    induction j with
    | zero =>
      intro i hi
      have hi2 : i = 32 := by omega
      subst hi2
      have hM3 := hM2.tmp (FM.refl.cp (j := 44) (b := 0) (i := 32) (f := (fun j => if j < G.length - 4 then V (mb + 40) (160 * h + 4 + j) else nI 0)) (fun x a1 a2 => by simp [own]))
      have hX : HD (cpV V2 (mb + 44) 0 32 (fun j => if j < G.length - 4 then V (mb + 40) (160 * h + 4 + j) else nI 0)) mb (G.drop 4) := by
        intro j hj
        rw [cpV_s (by omega), Nat.sub_zero]
        have eg : (G.drop 4).getD j 0 = G.getD (4 + j) 0 := by simp only [List.getD_eq_getElem?_getD, List.getElem?_drop]
        rw [eg]
        refine ⟨?_, hG.bytes _⟩
        by_cases q : j < G.length - 4
        · rw [if_pos q, show 160 * h + 4 + j = 160 * h + (4 + j) by omega]; exact (hG.at (by omega)).1
        · rw [if_neg q, List.getD_eq_getElem?_getD, List.getElem?_eq_none (by omega)]; rfl
      refine fs_iload (pc2 := 65) rfl rfl rfl rfl ?_
      refine fs_bipush (pc2 := 67) rfl rfl rfl ?_
      try simp (disch := omega) only [nI_lit, pk_mul, nI_add, pk_sub, pk_rem4, nI_clamp, up2_o, up2_s, up2_i, cpV_o, cpV_i]
      refine fs_icmp_ge (pc2 := 70) rfl rfl rfl (fun h67 => ?_) (fun h67 => ?_)
      · refine fs_aload_n (pc2 := 105) rfl rfl rfl rfl ?_
        refine fs_iload_n (pc2 := 106) rfl rfl rfl rfl ?_
        refine fs_iload_n (pc2 := 107) rfl rfl rfl rfl ?_
        try simp (disch := omega) only [nI_lit, pk_mul, nI_add, pk_sub, pk_rem4, nI_clamp, up2_o, up2_s, up2_i, cpV_o, cpV_i]
        refine fs_callv (pc2 := 110) rfl rfl rfl rfl ⟨rfl, rfl⟩ (Nat.le_of_ble_eq_true rfl) (Nat.le_of_ble_eq_true rfl) (Nat.le_of_ble_eq_true rfl) (fs_rcv rfl (by assumption)) (m_signal hm (H := hoN H 11 (H.1 11 + 1)) hM3 hh (by rw [show (hoN H 11 (H.1 11 + 1)).2.2.2.2.2.2 = G from hGd.symm]; exact hX) (size := G.length - 4) (by show H.2.2.2.2.2.2.length = _; rw [← hGd]; omega) (by omega) (fun i => by show H.2.2.2.2.2.2.getD i 0 < 256; rw [← hGd]; exact hG.bytes i) (fun k hk => (hI k hk).2.2.2) hT) (fun v9 sh9 V9 n9 hp9 => ?_)
        obtain ⟨ea9, eb9, ec9, hM4, kp4⟩ := hp9
        cases ea9
        obtain rfl := eb9.symm
        obtain rfl := ec9.symm
        refine fs_goto rfl rfl ?_
        try simp (disch := omega) only [nI_lit, pk_mul, nI_add, pk_sub, pk_rem4, nI_clamp, up2_o, up2_s, up2_i, cpV_o, cpV_i]
        refine fs_ret rfl rfl ?_
        exact hP _ _ _ _ ⟨rfl, rfl, rfl, hM4, (ko2.trans (KO.refl.cp (by decide))).trans kp4.ko⟩
      · exact absurd h67 (by decide)
    | succ j ih =>
      intro i hi
      have r40i : V2 (mb + 40) (160 * h + 4 + i) = V (mb + 40) (160 * h + 4 + i) := by rw [r40]
      refine fs_iload (pc2 := 65) rfl rfl rfl rfl ?_
      refine fs_bipush (pc2 := 67) rfl rfl rfl ?_
      try simp (disch := omega) only [nI_lit, pk_mul, nI_add, pk_sub, pk_rem4, nI_clamp, up2_o, up2_s, up2_i, cpV_o, cpV_i]
      refine fs_icmp_ge (pc2 := 70) rfl rfl rfl (fun h67 => ?_) (fun h67 => ?_)
      · exact absurd (nI_lt (a := i) (b := 32) (by omega) (by decide)) h67
      · refine fs_aload_n (pc2 := 71) rfl rfl rfl rfl ?_
        refine fs_getr (pc2 := 74) rfl rfl rfl (by assumption) rfl ?_
        refine fs_iload (pc2 := 76) rfl rfl rfl rfl ?_
        refine fs_iload (pc2 := 78) rfl rfl rfl rfl ?_
        refine fs_iload_n (pc2 := 79) rfl rfl rfl rfl ?_
        try simp (disch := omega) only [nI_lit, pk_mul, nI_add, pk_sub, pk_rem4, nI_clamp, up2_o, up2_s, up2_i, cpV_o, cpV_i]
        refine fs_icmp_ge (pc2 := 82) rfl rfl rfl (fun h79 => ?_) (fun h79 => ?_)
        · have k79 : G.length - 4 ≤ i := c_nlt h79 rfl rfl
          refine fs_iconst (pc2 := 97) rfl rfl rfl ?_
          try simp (disch := omega) only [nI_lit, pk_mul, nI_add, pk_sub, pk_rem4, nI_clamp, up2_o, up2_s, up2_i, cpV_o, cpV_i]
          refine fs_iast (pc2 := 98) rfl rfl rfl (by assumption) (vp_in_nI (by omega) (by decide)) ?_
          refine fs_iinc (pc2 := 101) rfl rfl rfl (Nat.le_of_ble_eq_true rfl) rfl ?_
          refine fs_goto rfl rfl ?_
          try simp (disch := omega) only [nI_lit, pk_mul, nI_add, pk_sub, pk_rem4, nI_clamp, up2_o, up2_s, up2_i, cpV_o, cpV_i, r40i]
          rw [cpV_10 (by rw [if_neg (by omega)])]
          exact ih (i + 1) (by omega)
        · have k79 : i < G.length - 4 := c_lt h79 rfl rfl
          refine fs_aload_n (pc2 := 83) rfl rfl rfl rfl ?_
          refine fs_getr (pc2 := 86) rfl rfl rfl (by assumption) rfl ?_
          refine fs_iload_n (pc2 := 87) rfl rfl rfl rfl ?_
          refine fs_iconst (pc2 := 88) rfl rfl rfl ?_
          refine fs_iadd (pc2 := 89) rfl rfl rfl ?_
          refine fs_iload (pc2 := 91) rfl rfl rfl rfl ?_
          refine fs_iadd (pc2 := 92) rfl rfl rfl ?_
          try simp (disch := omega) only [nI_lit, pk_mul, nI_add, pk_sub, pk_rem4, nI_clamp, up2_o, up2_s, up2_i, cpV_o, cpV_i]
          refine fs_iald (pc2 := 93) rfl rfl rfl (by assumption) (vp_in_nI (by omega) (by decide)) ?_
          refine fs_goto rfl rfl ?_
          try simp (disch := omega) only [nI_lit, pk_mul, nI_add, pk_sub, pk_rem4, nI_clamp, up2_o, up2_s, up2_i, cpV_o, cpV_i]
          refine fs_iast (pc2 := 98) rfl rfl rfl (by assumption) (vp_in_nI (by omega) (by decide)) ?_
          refine fs_iinc (pc2 := 101) rfl rfl rfl (Nat.le_of_ble_eq_true rfl) rfl ?_
          refine fs_goto rfl rfl ?_
          try simp (disch := omega) only [nI_lit, pk_mul, nI_add, pk_sub, pk_rem4, nI_clamp, up2_o, up2_s, up2_i, cpV_o, cpV_i, r40i]
          rw [cpV_10 (by rw [if_pos (by omega)])]
          exact ih (i + 1) (by omega)
  refine fs_aload_n (pc2 := 1) rfl rfl rfl rfl ?_
  refine fs_getr (pc2 := 4) rfl rfl rfl (by assumption) rfl ?_
  refine fs_iload_n (pc2 := 5) rfl rfl rfl rfl ?_
  refine fs_dup2 (pc2 := 6) rfl rfl rfl ?_
  try simp (disch := omega) only [nI_lit, pk_mul, nI_add, pk_sub, pk_rem4, nI_clamp, up2_o, up2_s, up2_i, cpV_o, cpV_i, e41, e39, b2, b3, eor]
  refine fs_iald (pc2 := 7) rfl rfl rfl (by assumption) (vp_in_nI (by omega) (by decide)) ?_
  refine fs_iconst (pc2 := 8) rfl rfl rfl ?_
  refine fs_iadd (pc2 := 9) rfl rfl rfl ?_
  try simp (disch := omega) only [nI_lit, pk_mul, nI_add, pk_sub, pk_rem4, nI_clamp, up2_o, up2_s, up2_i, cpV_o, cpV_i, e41, e39, b2, b3, eor]
  refine fs_iast (pc2 := 10) rfl rfl rfl (by assumption) (vp_in_nI (by omega) (by decide)) ?_
  refine fs_sipush (pc2 := 13) rfl rfl rfl ?_
  refine fs_iload_n (pc2 := 14) rfl rfl rfl rfl ?_
  refine fs_imul (pc2 := 15) rfl rfl rfl ?_
  refine fs_istore_n (pc2 := 16) rfl rfl rfl (Nat.le_of_ble_eq_true rfl) ?_
  refine fs_aload_n (pc2 := 17) rfl rfl rfl rfl ?_
  refine fs_getr (pc2 := 20) rfl rfl rfl (by assumption) rfl ?_
  refine fs_iload_n (pc2 := 21) rfl rfl rfl rfl ?_
  try simp (disch := omega) only [nI_lit, pk_mul, nI_add, pk_sub, pk_rem4, nI_clamp, up2_o, up2_s, up2_i, cpV_o, cpV_i, e41, e39, b2, b3, eor]
  refine fs_iald (pc2 := 22) rfl rfl rfl (by assumption) (vp_in_nI (by omega) (by decide)) ?_
  refine fs_iconst (pc2 := 23) rfl rfl rfl ?_
  refine fs_isub (pc2 := 24) rfl rfl rfl ?_
  refine fs_istore_n (pc2 := 25) rfl rfl rfl (Nat.le_of_ble_eq_true rfl) ?_
  refine fs_aload_n (pc2 := 26) rfl rfl rfl rfl ?_
  refine fs_getr (pc2 := 29) rfl rfl rfl (by assumption) rfl ?_
  refine fs_iload_n (pc2 := 30) rfl rfl rfl rfl ?_
  refine fs_iconst (pc2 := 31) rfl rfl rfl ?_
  refine fs_iadd (pc2 := 32) rfl rfl rfl ?_
  try simp (disch := omega) only [nI_lit, pk_mul, nI_add, pk_sub, pk_rem4, nI_clamp, up2_o, up2_s, up2_i, cpV_o, cpV_i, e41, e39, b2, b3, eor]
  refine fs_iald (pc2 := 33) rfl rfl rfl (by assumption) (vp_in_nI (by omega) (by decide)) ?_
  refine fs_aload_n (pc2 := 34) rfl rfl rfl rfl ?_
  refine fs_getr (pc2 := 37) rfl rfl rfl (by assumption) rfl ?_
  refine fs_iload_n (pc2 := 38) rfl rfl rfl rfl ?_
  refine fs_iconst (pc2 := 39) rfl rfl rfl ?_
  refine fs_iadd (pc2 := 40) rfl rfl rfl ?_
  try simp (disch := omega) only [nI_lit, pk_mul, nI_add, pk_sub, pk_rem4, nI_clamp, up2_o, up2_s, up2_i, cpV_o, cpV_i, e41, e39, b2, b3, eor]
  refine fs_iald (pc2 := 41) rfl rfl rfl (by assumption) (vp_in_nI (by omega) (by decide)) ?_
  refine fs_bipush (pc2 := 43) rfl rfl rfl ?_
  refine fs_ishl (pc2 := 44) rfl rfl rfl ?_
  refine fs_ior (pc2 := 45) rfl rfl rfl ?_
  refine fs_istore (pc2 := 47) rfl rfl rfl (Nat.le_of_ble_eq_true rfl) ?_
  refine fs_aload_n (pc2 := 48) rfl rfl rfl rfl ?_
  refine fs_getr (pc2 := 51) rfl rfl rfl (by assumption) rfl ?_
  refine fs_iload_n (pc2 := 52) rfl rfl rfl rfl ?_
  refine fs_iconst (pc2 := 53) rfl rfl rfl ?_
  try simp (disch := omega) only [nI_lit, pk_mul, nI_add, pk_sub, pk_rem4, nI_clamp, up2_o, up2_s, up2_i, cpV_o, cpV_i, e41, e39, b2, b3, eor]
  refine fs_iast (pc2 := 54) rfl rfl rfl (by assumption) (vp_in_nI (by omega) (by decide)) ?_
  refine fs_iload (pc2 := 56) rfl rfl rfl rfl ?_
  refine fs_iconst (pc2 := 57) rfl rfl rfl ?_
  try simp (disch := omega) only [nI_lit, pk_mul, nI_add, pk_sub, pk_rem4, nI_clamp, up2_o, up2_s, up2_i, cpV_o, cpV_i, e41, e39, b2, b3, eor]
  refine fs_icmp_ne (pc2 := 60) rfl rfl rfl (fun h57 => ?_) (fun h57 => ?_)
  · have k57 : num ≠ 5 := c_ne (b := 5) h57 rfl rfl
    rw [eU, if_neg k57] at hP
    rw [← hV2]
    refine fs_iload (pc2 := 115) rfl rfl rfl rfl ?_
    refine fs_bipush (pc2 := 117) rfl rfl rfl ?_
    refine fs_bipush (pc2 := 119) rfl rfl rfl ?_
    try simp (disch := omega) only [nI_lit, pk_mul, nI_add, pk_sub, pk_rem4, nI_clamp, up2_o, up2_s, up2_i, cpV_o, cpV_i, e41, e39, b2, b3, eor]
    refine fs_calls (pc2 := 122) rfl rfl rfl rfl rfl rfl ⟨rfl, rfl⟩ (Nat.le_of_ble_eq_true rfl) (Nat.le_of_ble_eq_true rfl) (Nat.le_of_ble_eq_true rfl) (m_isIn (u := nI num) (a := nI 64) (b := nI 67)) (fun v9 sh9 V9 n9 hp9 => ?_)
    obtain ⟨ea9, eb9, ec9, hv9⟩ := hp9
    cases ea9
    obtain rfl := eb9.symm
    obtain rfl := ec9.symm
    cases hv9
    rw [isInB_nI (by omega) (by decide) (by decide)]
    first | simp (disch := omega) only [nI_lit, pk_mul, nI_add, pk_sub, pk_rem4, nI_clamp, up2_o, up2_s, up2_i, cpV_o, cpV_i, e41, e39, b2, b3, eor, ek, e6] | simp (disch := omega) only [nI_lit, pk_mul, nI_add, pk_sub, pk_rem4, nI_clamp, up2_o, up2_s, up2_i, cpV_o, cpV_i, e41, e39, b2, b3, eor] | skip
    refine fs_if_eq (pc2 := 125) rfl rfl rfl (fun h122 => ?_) (fun h122 => ?_)
    · have k122 := of_decide_eq_false (bI_0.mp h122)
      rw [show ho_seg (hoN H 11 (H.1 11 + 1)) num = hoN (hoN H 11 (H.1 11 + 1)) 12 ((hoN H 11 (H.1 11 + 1)).1 12 + 1) from by unfold ho_seg; rw [if_neg (by intro z; exact k122 (by omega))]] at hP
      have hN2 := (hM2.host hh).1
      have e42 := hN2.2.2.2.2.1
      refine fs_aload_n (pc2 := 165) rfl rfl rfl rfl ?_
      refine fs_getr (pc2 := 168) rfl rfl rfl (by assumption) rfl ?_
      refine fs_iload_n (pc2 := 169) rfl rfl rfl rfl ?_
      refine fs_dup2 (pc2 := 170) rfl rfl rfl ?_
      first | simp (disch := omega) only [nI_lit, pk_mul, nI_add, pk_sub, pk_rem4, nI_clamp, up2_o, up2_s, up2_i, cpV_o, cpV_i, e41, e39, b2, b3, eor, e42] | simp (disch := omega) only [nI_lit, pk_mul, nI_add, pk_sub, pk_rem4, nI_clamp, up2_o, up2_s, up2_i, cpV_o, cpV_i, e41, e39, b2, b3, eor] | skip
      refine fs_iald (pc2 := 171) rfl rfl rfl (by assumption) (vp_in_nI (by omega) (by decide)) ?_
      refine fs_iconst (pc2 := 172) rfl rfl rfl ?_
      refine fs_iadd (pc2 := 173) rfl rfl rfl ?_
      first | simp (disch := omega) only [nI_lit, pk_mul, nI_add, pk_sub, pk_rem4, nI_clamp, up2_o, up2_s, up2_i, cpV_o, cpV_i, e41, e39, b2, b3, eor, e42] | simp (disch := omega) only [nI_lit, pk_mul, nI_add, pk_sub, pk_rem4, nI_clamp, up2_o, up2_s, up2_i, cpV_o, cpV_i, e41, e39, b2, b3, eor] | skip
      refine fs_iast (pc2 := 174) rfl rfl rfl (by assumption) (vp_in_nI (by omega) (by decide)) ?_
      try simp (disch := omega) only [nI_lit, pk_mul, nI_add, pk_sub, pk_rem4, nI_clamp, up2_o, up2_s, up2_i, cpV_o, cpV_i, e41, e39, b2, b3, eor]
      refine fs_ret rfl rfl ?_
      have hM3 := (hM2.mono (T' := fun i => T i + 1) (fun i hi => ⟨by omega, hT i hi⟩)).pN hh (FM.refl.up (j := 42) (i := h) (v := nI ((hoN H 11 (H.1 11 + 1)).1 12 + 1)) (by simp [own])) (hN2.put 12 (Or.inr (Or.inl rfl)) _ rfl) (va_up_ne _ _ (by decide))
      exact hP _ _ _ _ ⟨rfl, rfl, rfl, hM3, ko2.trans (KO.refl.up (by decide))⟩
    · have k122 := of_decide_eq_true (bI_t h122)
      obtain ⟨k, hk⟩ : ∃ k, num = 64 + k := ⟨num - 64, by omega⟩
      have hk4 : k < 4 := by omega
      have ek : 4 * h + num - 64 = 4 * h + k := by omega
      obtain ⟨e6, l6⟩ := ((hM2.host hh).2.2.2.2.2.2 k hk4).num (1, 6) (by decide)
      dsimp only at e6 l6
      refine fs_aload_n (pc2 := 126) rfl rfl rfl rfl ?_
      refine fs_getr (pc2 := 129) rfl rfl rfl (by assumption) rfl ?_
      refine fs_iconst (pc2 := 130) rfl rfl rfl ?_
      refine fs_iload_n (pc2 := 131) rfl rfl rfl rfl ?_
      refine fs_imul (pc2 := 132) rfl rfl rfl ?_
      refine fs_iload (pc2 := 134) rfl rfl rfl rfl ?_
      refine fs_iadd (pc2 := 135) rfl rfl rfl ?_
      refine fs_bipush (pc2 := 137) rfl rfl rfl ?_
      refine fs_isub (pc2 := 138) rfl rfl rfl ?_
      first | simp (disch := omega) only [nI_lit, pk_mul, nI_add, pk_sub, pk_rem4, nI_clamp, up2_o, up2_s, up2_i, cpV_o, cpV_i, e41, e39, b2, b3, eor, ek, e6] | simp (disch := omega) only [nI_lit, pk_mul, nI_add, pk_sub, pk_rem4, nI_clamp, up2_o, up2_s, up2_i, cpV_o, cpV_i, e41, e39, b2, b3, eor] | skip
      refine fs_iald (pc2 := 139) rfl rfl rfl (by assumption) (vp_in_nI (by omega) (by decide)) ?_
      refine fs_iconst (pc2 := 140) rfl rfl rfl ?_
      first | simp (disch := omega) only [nI_lit, pk_mul, nI_add, pk_sub, pk_rem4, nI_clamp, up2_o, up2_s, up2_i, cpV_o, cpV_i, e41, e39, b2, b3, eor, ek, e6] | simp (disch := omega) only [nI_lit, pk_mul, nI_add, pk_sub, pk_rem4, nI_clamp, up2_o, up2_s, up2_i, cpV_o, cpV_i, e41, e39, b2, b3, eor] | skip
      refine fs_icmp_ne (pc2 := 143) rfl rfl rfl (fun h140 => ?_) (fun h140 => ?_)
      · have k140 : (H.2.1 k).1 1 ≠ 2 := c_ne (b := 2) h140 rfl rfl
        rw [show ho_seg (hoN H 11 (H.1 11 + 1)) num = hoN (hoN H 11 (H.1 11 + 1)) 12 ((hoN H 11 (H.1 11 + 1)).1 12 + 1) from by unfold ho_seg; rw [if_neg (by intro z; apply k140; have := z.2; rwa [show num - 64 = k by omega] at this)]] at hP
        have hN2 := (hM2.host hh).1
        have e42 := hN2.2.2.2.2.1
        refine fs_aload_n (pc2 := 165) rfl rfl rfl rfl ?_
        refine fs_getr (pc2 := 168) rfl rfl rfl (by assumption) rfl ?_
        refine fs_iload_n (pc2 := 169) rfl rfl rfl rfl ?_
        refine fs_dup2 (pc2 := 170) rfl rfl rfl ?_
        first | simp (disch := omega) only [nI_lit, pk_mul, nI_add, pk_sub, pk_rem4, nI_clamp, up2_o, up2_s, up2_i, cpV_o, cpV_i, e41, e39, b2, b3, eor, e42] | simp (disch := omega) only [nI_lit, pk_mul, nI_add, pk_sub, pk_rem4, nI_clamp, up2_o, up2_s, up2_i, cpV_o, cpV_i, e41, e39, b2, b3, eor] | skip
        refine fs_iald (pc2 := 171) rfl rfl rfl (by assumption) (vp_in_nI (by omega) (by decide)) ?_
        refine fs_iconst (pc2 := 172) rfl rfl rfl ?_
        refine fs_iadd (pc2 := 173) rfl rfl rfl ?_
        first | simp (disch := omega) only [nI_lit, pk_mul, nI_add, pk_sub, pk_rem4, nI_clamp, up2_o, up2_s, up2_i, cpV_o, cpV_i, e41, e39, b2, b3, eor, e42] | simp (disch := omega) only [nI_lit, pk_mul, nI_add, pk_sub, pk_rem4, nI_clamp, up2_o, up2_s, up2_i, cpV_o, cpV_i, e41, e39, b2, b3, eor] | skip
        refine fs_iast (pc2 := 174) rfl rfl rfl (by assumption) (vp_in_nI (by omega) (by decide)) ?_
        try simp (disch := omega) only [nI_lit, pk_mul, nI_add, pk_sub, pk_rem4, nI_clamp, up2_o, up2_s, up2_i, cpV_o, cpV_i, e41, e39, b2, b3, eor]
        refine fs_ret rfl rfl ?_
        have hM3 := (hM2.mono (T' := fun i => T i + 1) (fun i hi => ⟨by omega, hT i hi⟩)).pN hh (FM.refl.up (j := 42) (i := h) (v := nI ((hoN H 11 (H.1 11 + 1)).1 12 + 1)) (by simp [own])) (hN2.put 12 (Or.inr (Or.inl rfl)) _ rfl) (va_up_ne _ _ (by decide))
        exact hP _ _ _ _ ⟨rfl, rfl, rfl, hM3, ko2.trans (KO.refl.up (by decide))⟩
      · have k140 : (H.2.1 k).1 1 = 2 := c_eq (b := 2) h140 rfl rfl
        refine fs_aload_n (pc2 := 144) rfl rfl rfl rfl ?_
        refine fs_iload_n (pc2 := 145) rfl rfl rfl rfl ?_
        refine fs_iconst (pc2 := 146) rfl rfl rfl ?_
        refine fs_iload_n (pc2 := 147) rfl rfl rfl rfl ?_
        refine fs_imul (pc2 := 148) rfl rfl rfl ?_
        refine fs_iload (pc2 := 150) rfl rfl rfl rfl ?_
        refine fs_iadd (pc2 := 151) rfl rfl rfl ?_
        refine fs_bipush (pc2 := 153) rfl rfl rfl ?_
        refine fs_isub (pc2 := 154) rfl rfl rfl ?_
        refine fs_iload_n (pc2 := 155) rfl rfl rfl rfl ?_
        refine fs_iconst (pc2 := 156) rfl rfl rfl ?_
        refine fs_iadd (pc2 := 157) rfl rfl rfl ?_
        refine fs_iload_n (pc2 := 158) rfl rfl rfl rfl ?_
        first | simp (disch := omega) only [nI_lit, pk_mul, nI_add, pk_sub, pk_rem4, nI_clamp, up2_o, up2_s, up2_i, cpV_o, cpV_i, e41, e39, b2, b3, eor, ek, e6] | simp (disch := omega) only [nI_lit, pk_mul, nI_add, pk_sub, pk_rem4, nI_clamp, up2_o, up2_s, up2_i, cpV_o, cpV_i, e41, e39, b2, b3, eor] | skip
        refine fs_callv (pc2 := 161) rfl rfl rfl rfl ⟨rfl, rfl⟩ (Nat.le_of_ble_eq_true rfl) (Nat.le_of_ble_eq_true rfl) (Nat.le_of_ble_eq_true rfl) (fs_rcv rfl (by assumption)) (m_segment hm (H := hoG (hoN H 11 (H.1 11 + 1)) []) hM2 hh hk4 (G := G) (by rw [r40]; exact hG) l4 l128 (hI k hk4).1 (hI k hk4).2.1 (hI k hk4).2.2.1 hT) (fun v9 sh9 V9 n9 hp9 => ?_)
        obtain ⟨ea9, eb9, ec9, hM3, kp3⟩ := hp9
        cases ea9
        obtain rfl := eb9.symm
        obtain rfl := ec9.symm
        refine fs_goto rfl rfl ?_
        try simp (disch := omega) only [nI_lit, pk_mul, nI_add, pk_sub, pk_rem4, nI_clamp, up2_o, up2_s, up2_i, cpV_o, cpV_i, e41, e39, b2, b3, eor]
        refine fs_ret rfl rfl ?_
        refine hP _ _ _ _ ⟨rfl, rfl, rfl, ?_, ko2.trans kp3.ko⟩
        rw [show hoG (ho_seg (hoN H 11 (H.1 11 + 1)) num) [] = ho_rd (hoG (hoN H 11 (H.1 11 + 1)) []) k (ch_read ((hoG (hoN H 11 (H.1 11 + 1)) []).2.1 k) G) from by
          unfold ho_seg ho_rd
          rw [show num - 64 = k by omega, if_pos ⟨by omega, k140⟩, show (hoN H 11 (H.1 11 + 1)).2.2.2.2.2.2 = G from hGd.symm]
          show hoG (if (ch_read (H.2.1 k) G).1 = true then _ else _) [] = if (ch_read (H.2.1 k) G).1 = true then _ else _
          split <;> rfl]
        exact hM3
  · have k57 : num = 5 := c_eq (b := 5) h57 rfl rfl
    rw [← hV2]
    refine fs_iconst (pc2 := 61) rfl rfl rfl ?_
    refine fs_istore (pc2 := 63) rfl rfl rfl (Nat.le_of_ble_eq_true rfl) ?_
    try simp (disch := omega) only [nI_lit, pk_mul, nI_add, pk_sub, pk_rem4, nI_clamp, up2_o, up2_s, up2_i, cpV_o, cpV_i]
    have l0 := loop k57 32 0 (by omega)
    rw [cpV_0] at l0
    exact l0
end MUNIT
