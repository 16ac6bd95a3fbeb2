theorem up2_id {V : fl_V} {k j : Nat} {v : Int32} (h : V k j = v) : up2 V k j v = V := by
  funext a i
  unfold up2
  split
  · next e => split
              · next e2 => rw [e, e2, h]
              · rw [e]
  · rfl
theorem nI_4 {a : Nat} (h : a < 4) : ¬ nI a - nI 4 = nI 65535 := by
  rcases (by omega : a = 0 ∨ a = 1 ∨ a = 2 ∨ a = 3) with rfl | rfl | rfl | rfl <;> decide
/-- a packet is gathered; a whole unit is handled -/
def ho_gth (H : Ho) (mk : Bool) (ys : List Nat) : Ho := if (ho_gath H mk ys).1 = true then ho_unitH (ho_gath H mk ys).2 else (ho_gath H mk ys).2
theorem MG.add {V : fl_V} {mb h : Nat} {G ys : List Nat} (hG : MG V mb h G) (hl : G.length + ys.length ≤ 128) {f : Nat → Int32} (hf : ∀ j, j < ys.length → f j = nI (ys.getD j 0) ∧ ys.getD j 0 < 256) : MG (up2 (cpV V (mb + 40) (160 * h + G.length) ys.length f) (mb + 39) h (nI (G.length + ys.length))) mb h (G ++ ys) := by
  obtain ⟨g1, g2, g3⟩ := hG
  refine ⟨by rw [up2_s]; simp, by simp; omega, fun j b hj => ?_⟩
  rw [up2_o (by omega)]
  have lj := (List.getElem?_eq_some_iff.mp hj).1
  simp at lj
  by_cases z : j < G.length
  · rw [List.getElem?_append_left z] at hj
    rw [cpV_i (by omega)]
    exact g3 j b hj
  · rw [List.getElem?_append_right (by omega)] at hj
    obtain ⟨a1, a2⟩ := hf (j - G.length) (by omega)
    rw [List.getD_eq_getElem?_getD, hj] at a1 a2
    rw [cpV_s (by omega), show 160 * h + j - (160 * h + G.length) = j - G.length by omega]
    exact ⟨a1, a2⟩
section MGATH
variable {cy : Nat → ClassId} {z0 : Nat} {ext : Nat → Nat → List Value → ev_H → Nat → ev_P → Prop} {d : Nat} {sh : fl_S} {V : fl_V} {n mb : Nat} {T : Nat → Nat} {S : List Nat} {HH : Nat → Ho} {H : Ho} {h k : Nat}
set_option maxRecDepth 100000 in
set_option maxHeartbeats 4000000 in
theorem m_gath98 (hm : isMo sh mb) (hM : Mo V mb T S (va_up HH h H)) (hh : h < 2) {V0 : fl_V} (ko : KO mb V0 V) {ys : List Nat} {mk : Bool} (ly : ys.length ≤ 27) (hy : ∀ j, j < ys.length → V (mb + 44) j = nI (ys.getD j 0) ∧ ys.getD j 0 < 256) (hl : H.2.2.2.2.2.2.length + ys.length ≤ 128) (hI : HI H) (hT : ∀ i, i < 2 → T i < 2048) {Ret : ev_P} (hP : ∀ (v : Option Value) (sh' : fl_S) (V' : fl_V) (n' : Nat), (fun v sh' V' n' => v = none ∧ sh' = sh ∧ n' = n ∧ Mo V' mb (fun i => T i + 1) S (va_up HH h (if (ho_gath2 H ys).1 = true then ho_unitH (ho_gath2 H ys).2 else (ho_gath2 H ys).2)) ∧ KO mb V0 V') v sh' V' n' → Ret v (fl_f cy z0 sh' V') (z0 + n')) : fl_R cy z0 (ev_M cy ext (d + 6)) 7 0 0 6 none kc_X7_gather Ret 98 [(0, .ref (z0 + mb)), (1, .int (nI h)), (2, .int (nI ys.length)), (3, .int (bI mk))] [] sh V n 0 0 := by
  have m0 := hm.1
  have a39 : sh (mb + 39) = some (.inl (1, 2, none)) := hm.2 38 (1, 2) rfl
  have a40 : sh (mb + 40) = some (.inl (1, 320, none)) := hm.2 39 (1, 320) rfl
  have a42 : sh (mb + 42) = some (.inl (1, 2, none)) := hm.2 41 (1, 2) rfl
  have a44 : sh (mb + 44) = some (.inl (1, 32, none)) := hm.2 43 (1, 32) rfl
  have hMm := hM.mono (T' := fun i => T i + 1) (fun i hi => ⟨by omega, hT i hi⟩)
  have hG := (hM.host hh).2.2.2.2.2.1
  obtain ⟨G, hGd⟩ : ∃ G, G = H.2.2.2.2.2.2 := ⟨_, rfl⟩
  rw [← hGd] at hG hl
  obtain ⟨e39, l128, hGb⟩ := id hG
  have hG2 := hG.add hl (f := fun j => V (mb + 44) j) hy
  obtain ⟨V2, hV2⟩ : ∃ V2, V2 = up2 (cpV V (mb + 40) (160 * h + G.length) ys.length (fun j => V (mb + 44) j)) (mb + 39) h (nI (G.length + ys.length)) := ⟨_, rfl⟩
  rw [← hV2] at hG2
  have hF2 : FM mb (18 + h) V V2 := by rw [hV2]; exact (FM.refl.cp (j := 40) (fun x a1 a2 => by simp [own] <;> omega)).up (j := 39) (by simp [own])
  have hM2 := hM.pG hh hF2 hG2
  have hM2m := hMm.pG hh hF2 hG2
  have ko2 : KO mb V0 V2 := by rw [hV2]; exact ko.trans ((KO.refl.cp (by decide)).up (by decide))
  obtain ⟨X, hXd⟩ : ∃ X, X = G ++ ys := ⟨_, rfl⟩
  have lX : X.length = G.length + ys.length := by rw [hXd]; simp
  rw [← hXd] at hG2 hM2 hM2m
  have f39 : V2 (mb + 39) h = nI X.length := hG2.1
  have eg : ho_gath2 H ys = if X.length < 4 then (false, hoG H X) else if 4 + num2 X 0 < X.length then (false, ho_drop (hoG H X)) else (decide (X.length = 4 + num2 X 0), hoG H X) := by unfold ho_gath2; rw [← hGd, ← hXd]
  have hN2 := (hM2.host hh).1
  have f42 : V2 (mb + 42) h = nI (H.1 12) := hN2.2.2.2.2.1
  have j158 : ∀ q5 : Int32, fl_R cy z0 (ev_M cy ext (d + 6)) 7 0 0 6 none kc_X7_gather Ret 158 [(0, .ref (z0 + mb)), (1, .int (nI h)), (2, .int (nI ys.length)), (3, .int (bI mk)), (4, .int (nI (160 * h))), (5, .int q5)] [] sh V2 n 0 0 := by
    intro q5
    refine fs_aload_n (pc2 := 159) rfl rfl rfl rfl ?_
    refine fs_getr (pc2 := 162) rfl rfl rfl (by assumption) rfl ?_
    refine fs_iload_n (pc2 := 163) rfl rfl rfl rfl ?_
    try simp (disch := omega) only [nI_lit, pk_mul, nI_add, pk_sub, pk_rem4, nI_clamp, up2_o, up2_s, up2_i, cpV_o, cpV_i, f39, f42]
    refine fs_iald (pc2 := 164) rfl rfl rfl (by assumption) (vp_in_nI (by omega) (by decide)) ?_
    refine fs_iconst (pc2 := 165) rfl rfl rfl ?_
    try simp (disch := omega) only [nI_lit, pk_mul, nI_add, pk_sub, pk_rem4, nI_clamp, up2_o, up2_s, up2_i, cpV_o, cpV_i, f39, f42]
    refine fs_icmp_ge (pc2 := 168) rfl rfl rfl (fun h165 => ?_) (fun h165 => ?_)
    · have k165 : 4 ≤ X.length := c_nlt (b := 4) h165 rfl rfl
      rw [if_neg (by omega)] at eg
      obtain ⟨b0, c0⟩ := hG2.2.2.at (j := 0) (by omega)
      obtain ⟨b1, c1⟩ := hG2.2.2.at (j := 1) (by omega)
      simp only [Nat.add_zero] at b0
      have enum : num2 X 0 = X.getD 0 0 + 256 * X.getD 1 0 := by unfold num2; rw [if_pos (by omega)]
      have eor : nI (X.getD 0 0) ||| (nI (X.getD 1 0) <<< (nI 8 &&& nI 31)) = nI (num2 X 0) := by rw [enum]; exact nI_two c0 (by omega)
      have lnum : num2 X 0 < 65536 := by omega
      refine fs_aload_n (pc2 := 174) rfl rfl rfl rfl ?_
      refine fs_getr (pc2 := 177) rfl rfl rfl (by assumption) rfl ?_
      refine fs_iload (pc2 := 179) rfl rfl rfl rfl ?_
      first | simp (disch := omega) only [nI_lit, pk_mul, nI_add, pk_sub, pk_rem4, nI_clamp, up2_o, up2_s, up2_i, cpV_o, cpV_i, f39, f42, b0, b1, eor] | simp (disch := omega) only [nI_lit, pk_mul, nI_add, pk_sub, pk_rem4, nI_clamp, up2_o, up2_s, up2_i, cpV_o, cpV_i, f39, f42] | skip
      refine fs_iald (pc2 := 180) rfl rfl rfl (by assumption) (vp_in_nI (by omega) (by decide)) ?_
      refine fs_aload_n (pc2 := 181) rfl rfl rfl rfl ?_
      refine fs_getr (pc2 := 184) rfl rfl rfl (by assumption) rfl ?_
      refine fs_iload (pc2 := 186) rfl rfl rfl rfl ?_
      refine fs_iconst (pc2 := 187) rfl rfl rfl ?_
      refine fs_iadd (pc2 := 188) rfl rfl rfl ?_
      first | simp (disch := omega) only [nI_lit, pk_mul, nI_add, pk_sub, pk_rem4, nI_clamp, up2_o, up2_s, up2_i, cpV_o, cpV_i, f39, f42, b0, b1, eor] | simp (disch := omega) only [nI_lit, pk_mul, nI_add, pk_sub, pk_rem4, nI_clamp, up2_o, up2_s, up2_i, cpV_o, cpV_i, f39, f42] | skip
      refine fs_iald (pc2 := 189) rfl rfl rfl (by assumption) (vp_in_nI (by omega) (by decide)) ?_
      refine fs_bipush (pc2 := 191) rfl rfl rfl ?_
      refine fs_ishl (pc2 := 192) rfl rfl rfl ?_
      refine fs_ior (pc2 := 193) rfl rfl rfl ?_
      refine fs_istore (pc2 := 195) rfl rfl rfl (Nat.le_of_ble_eq_true rfl) ?_
      refine fs_aload_n (pc2 := 196) rfl rfl rfl rfl ?_
      refine fs_getr (pc2 := 199) rfl rfl rfl (by assumption) rfl ?_
      refine fs_iload_n (pc2 := 200) rfl rfl rfl rfl ?_
      first | simp (disch := omega) only [nI_lit, pk_mul, nI_add, pk_sub, pk_rem4, nI_clamp, up2_o, up2_s, up2_i, cpV_o, cpV_i, f39, f42, b0, b1, eor] | simp (disch := omega) only [nI_lit, pk_mul, nI_add, pk_sub, pk_rem4, nI_clamp, up2_o, up2_s, up2_i, cpV_o, cpV_i, f39, f42] | skip
      refine fs_iald (pc2 := 201) rfl rfl rfl (by assumption) (vp_in_nI (by omega) (by decide)) ?_
      refine fs_iconst (pc2 := 202) rfl rfl rfl ?_
      refine fs_isub (pc2 := 203) rfl rfl rfl ?_
      refine fs_iload (pc2 := 205) rfl rfl rfl rfl ?_
      first | simp (disch := omega) only [nI_lit, pk_mul, nI_add, pk_sub, pk_rem4, nI_clamp, up2_o, up2_s, up2_i, cpV_o, cpV_i, f39, f42, b0, b1, eor] | simp (disch := omega) only [nI_lit, pk_mul, nI_add, pk_sub, pk_rem4, nI_clamp, up2_o, up2_s, up2_i, cpV_o, cpV_i, f39, f42] | skip
      refine fs_icmp_ne (pc2 := 208) rfl rfl rfl (fun h205 => ?_) (fun h205 => ?_)
      · have k205 : X.length - 4 ≠ num2 X 0 := c_ne h205 rfl rfl
        refine fs_aload_n (pc2 := 217) rfl rfl rfl rfl ?_
        refine fs_getr (pc2 := 220) rfl rfl rfl (by assumption) rfl ?_
        refine fs_iload_n (pc2 := 221) rfl rfl rfl rfl ?_
        first | simp (disch := omega) only [nI_lit, pk_mul, nI_add, pk_sub, pk_rem4, nI_clamp, up2_o, up2_s, up2_i, cpV_o, cpV_i, f39, f42, b0, b1, eor] | simp (disch := omega) only [nI_lit, pk_mul, nI_add, pk_sub, pk_rem4, nI_clamp, up2_o, up2_s, up2_i, cpV_o, cpV_i, f39, f42] | skip
        refine fs_iald (pc2 := 222) rfl rfl rfl (by assumption) (vp_in_nI (by omega) (by decide)) ?_
        refine fs_iconst (pc2 := 223) rfl rfl rfl ?_
        first | simp (disch := omega) only [nI_lit, pk_mul, nI_add, pk_sub, pk_rem4, nI_clamp, up2_o, up2_s, up2_i, cpV_o, cpV_i, f39, f42, b0, b1, eor] | simp (disch := omega) only [nI_lit, pk_mul, nI_add, pk_sub, pk_rem4, nI_clamp, up2_o, up2_s, up2_i, cpV_o, cpV_i, f39, f42] | skip
        refine fs_icmp_le (pc2 := 226) rfl rfl rfl (fun h223 => ?_) (fun h223 => ?_)
        · have := c_le (b := 3) h223 rfl rfl
          omega
        · refine fs_aload_n (pc2 := 227) rfl rfl rfl rfl ?_
          refine fs_getr (pc2 := 230) rfl rfl rfl (by assumption) rfl ?_
          refine fs_iload_n (pc2 := 231) rfl rfl rfl rfl ?_
          first | simp (disch := omega) only [nI_lit, pk_mul, nI_add, pk_sub, pk_rem4, nI_clamp, up2_o, up2_s, up2_i, cpV_o, cpV_i, f39, f42, b0, b1, eor] | simp (disch := omega) only [nI_lit, pk_mul, nI_add, pk_sub, pk_rem4, nI_clamp, up2_o, up2_s, up2_i, cpV_o, cpV_i, f39, f42] | skip
          refine fs_iald (pc2 := 232) rfl rfl rfl (by assumption) (vp_in_nI (by omega) (by decide)) ?_
          refine fs_iconst (pc2 := 233) rfl rfl rfl ?_
          refine fs_isub (pc2 := 234) rfl rfl rfl ?_
          refine fs_iload (pc2 := 236) rfl rfl rfl rfl ?_
          first | simp (disch := omega) only [nI_lit, pk_mul, nI_add, pk_sub, pk_rem4, nI_clamp, up2_o, up2_s, up2_i, cpV_o, cpV_i, f39, f42, b0, b1, eor] | simp (disch := omega) only [nI_lit, pk_mul, nI_add, pk_sub, pk_rem4, nI_clamp, up2_o, up2_s, up2_i, cpV_o, cpV_i, f39, f42] | skip
          refine fs_icmp_le (pc2 := 239) rfl rfl rfl (fun h236 => ?_) (fun h236 => ?_)
          · have k236 : X.length - 4 ≤ num2 X 0 := c_le h236 rfl rfl
            rw [if_neg (by omega), decide_eq_false (by omega)] at eg
            rw [eg] at hP
            try simp (disch := omega) only [nI_lit, pk_mul, nI_add, pk_sub, pk_rem4, nI_clamp, up2_o, up2_s, up2_i, cpV_o, cpV_i, f39, f42]
            refine fs_ret rfl rfl ?_
            exact hP _ _ _ _ ⟨rfl, rfl, rfl, hM2m, ko2⟩
          · have k236 : num2 X 0 < X.length - 4 := c_nle h236 rfl rfl
            rw [if_pos (by omega)] at eg
            rw [eg] at hP
            refine fs_aload_n (pc2 := 240) rfl rfl rfl rfl ?_
            refine fs_getr (pc2 := 243) rfl rfl rfl (by assumption) rfl ?_
            refine fs_iload_n (pc2 := 244) rfl rfl rfl rfl ?_
            refine fs_iconst (pc2 := 245) rfl rfl rfl ?_
            first | simp (disch := omega) only [nI_lit, pk_mul, nI_add, pk_sub, pk_rem4, nI_clamp, up2_o, up2_s, up2_i, cpV_o, cpV_i, f39, f42, b0, b1, eor] | simp (disch := omega) only [nI_lit, pk_mul, nI_add, pk_sub, pk_rem4, nI_clamp, up2_o, up2_s, up2_i, cpV_o, cpV_i, f39, f42] | skip
            refine fs_iast (pc2 := 246) rfl rfl rfl (by assumption) (vp_in_nI (by omega) (by decide)) ?_
            refine fs_aload_n (pc2 := 247) rfl rfl rfl rfl ?_
            refine fs_getr (pc2 := 250) rfl rfl rfl (by assumption) rfl ?_
            refine fs_iload_n (pc2 := 251) rfl rfl rfl rfl ?_
            refine fs_dup2 (pc2 := 252) rfl rfl rfl ?_
            first | simp (disch := omega) only [nI_lit, pk_mul, nI_add, pk_sub, pk_rem4, nI_clamp, up2_o, up2_s, up2_i, cpV_o, cpV_i, f39, f42, b0, b1, eor] | simp (disch := omega) only [nI_lit, pk_mul, nI_add, pk_sub, pk_rem4, nI_clamp, up2_o, up2_s, up2_i, cpV_o, cpV_i, f39, f42] | skip
            refine fs_iald (pc2 := 253) rfl rfl rfl (by assumption) (vp_in_nI (by omega) (by decide)) ?_
            refine fs_iconst (pc2 := 254) rfl rfl rfl ?_
            refine fs_iadd (pc2 := 255) rfl rfl rfl ?_
            first | simp (disch := omega) only [nI_lit, pk_mul, nI_add, pk_sub, pk_rem4, nI_clamp, up2_o, up2_s, up2_i, cpV_o, cpV_i, f39, f42, b0, b1, eor] | simp (disch := omega) only [nI_lit, pk_mul, nI_add, pk_sub, pk_rem4, nI_clamp, up2_o, up2_s, up2_i, cpV_o, cpV_i, f39, f42] | skip
            refine fs_iast (pc2 := 256) rfl rfl rfl (by assumption) (vp_in_nI (by omega) (by decide)) ?_
            try simp (disch := omega) only [nI_lit, pk_mul, nI_add, pk_sub, pk_rem4, nI_clamp, up2_o, up2_s, up2_i, cpV_o, cpV_i, f39, f42]
            refine fs_ret rfl rfl ?_
            have hM3 := hM2m.pG (G := []) hh (FM.refl.up (j := 39) (i := h) (v := nI 0) (by simp [own])) ⟨up2_s, by simp, fun j b hj => by simp at hj⟩
            have hN3 := (hM3.host hh).1
            have hM4 := hM3.pN hh (FM.refl.up (j := 42) (i := h) (v := nI (H.1 12 + 1)) (by simp [own])) (hN3.put 12 (Or.inr (Or.inl rfl)) (H.1 12 + 1) rfl) (va_up_ne _ _ (by decide))
            exact hP _ _ _ _ ⟨rfl, rfl, rfl, hM4, ko2.trans ((KO.refl.up (by decide)).up (by decide))⟩
      · have k205 : X.length - 4 = num2 X 0 := c_eq h205 rfl rfl
        rw [if_neg (by omega), decide_eq_true (by omega)] at eg
        rw [eg] at hP
        refine fs_aload_n (pc2 := 209) rfl rfl rfl rfl ?_
        refine fs_iload_n (pc2 := 210) rfl rfl rfl rfl ?_
        first | simp (disch := omega) only [nI_lit, pk_mul, nI_add, pk_sub, pk_rem4, nI_clamp, up2_o, up2_s, up2_i, cpV_o, cpV_i, f39, f42, b0, b1, eor] | simp (disch := omega) only [nI_lit, pk_mul, nI_add, pk_sub, pk_rem4, nI_clamp, up2_o, up2_s, up2_i, cpV_o, cpV_i, f39, f42] | skip
        refine fs_callv (pc2 := 213) rfl rfl rfl rfl ⟨rfl, rfl⟩ (Nat.le_of_ble_eq_true rfl) (Nat.le_of_ble_eq_true rfl) (Nat.le_of_ble_eq_true rfl) (fs_rcv rfl (by assumption)) (m_unit hm hM2 hh k165 hI hT) (fun v9 sh9 V9 n9 hp9 => ?_)
        obtain ⟨ea9, eb9, ec9, hM3, ko3⟩ := hp9
        cases ea9
        obtain rfl := eb9.symm
        obtain rfl := ec9.symm
        refine fs_goto rfl rfl ?_
        try simp (disch := omega) only [nI_lit, pk_mul, nI_add, pk_sub, pk_rem4, nI_clamp, up2_o, up2_s, up2_i, cpV_o, cpV_i, f39, f42]
        refine fs_ret rfl rfl ?_
        exact hP _ _ _ _ ⟨rfl, rfl, rfl, hM3, ko2.trans ko3⟩
    · have k165 : X.length < 4 := c_lt (b := 4) h165 rfl rfl
      rw [if_pos k165] at eg
      rw [eg] at hP
      refine fs_ldc (pc2 := 170) rfl rfl rfl ?_
      refine fs_goto rfl rfl ?_
      refine fs_istore (pc2 := 195) rfl rfl rfl (Nat.le_of_ble_eq_true rfl) ?_
      refine fs_aload_n (pc2 := 196) rfl rfl rfl rfl ?_
      refine fs_getr (pc2 := 199) rfl rfl rfl (by assumption) rfl ?_
      refine fs_iload_n (pc2 := 200) rfl rfl rfl rfl ?_
      first | simp (disch := omega) only [nI_lit, pk_mul, nI_add, pk_sub, pk_rem4, nI_clamp, up2_o, up2_s, up2_i, cpV_o, cpV_i, f39, f42, b0, b1, eor] | simp (disch := omega) only [nI_lit, pk_mul, nI_add, pk_sub, pk_rem4, nI_clamp, up2_o, up2_s, up2_i, cpV_o, cpV_i, f39, f42] | skip
      refine fs_iald (pc2 := 201) rfl rfl rfl (by assumption) (vp_in_nI (by omega) (by decide)) ?_
      refine fs_iconst (pc2 := 202) rfl rfl rfl ?_
      refine fs_isub (pc2 := 203) rfl rfl rfl ?_
      refine fs_iload (pc2 := 205) rfl rfl rfl rfl ?_
      first | simp (disch := omega) only [nI_lit, pk_mul, nI_add, pk_sub, pk_rem4, nI_clamp, up2_o, up2_s, up2_i, cpV_o, cpV_i, f39, f42, b0, b1, eor] | simp (disch := omega) only [nI_lit, pk_mul, nI_add, pk_sub, pk_rem4, nI_clamp, up2_o, up2_s, up2_i, cpV_o, cpV_i, f39, f42] | skip
      refine fs_icmp_ne (pc2 := 208) rfl rfl rfl (fun h205 => ?_) (fun h205 => ?_)
      · refine fs_aload_n (pc2 := 217) rfl rfl rfl rfl ?_
        refine fs_getr (pc2 := 220) rfl rfl rfl (by assumption) rfl ?_
        refine fs_iload_n (pc2 := 221) rfl rfl rfl rfl ?_
        first | simp (disch := omega) only [nI_lit, pk_mul, nI_add, pk_sub, pk_rem4, nI_clamp, up2_o, up2_s, up2_i, cpV_o, cpV_i, f39, f42, b0, b1, eor] | simp (disch := omega) only [nI_lit, pk_mul, nI_add, pk_sub, pk_rem4, nI_clamp, up2_o, up2_s, up2_i, cpV_o, cpV_i, f39, f42] | skip
        refine fs_iald (pc2 := 222) rfl rfl rfl (by assumption) (vp_in_nI (by omega) (by decide)) ?_
        refine fs_iconst (pc2 := 223) rfl rfl rfl ?_
        first | simp (disch := omega) only [nI_lit, pk_mul, nI_add, pk_sub, pk_rem4, nI_clamp, up2_o, up2_s, up2_i, cpV_o, cpV_i, f39, f42, b0, b1, eor] | simp (disch := omega) only [nI_lit, pk_mul, nI_add, pk_sub, pk_rem4, nI_clamp, up2_o, up2_s, up2_i, cpV_o, cpV_i, f39, f42] | skip
        refine fs_icmp_le (pc2 := 226) rfl rfl rfl (fun h223 => ?_) (fun h223 => ?_)
        · try simp (disch := omega) only [nI_lit, pk_mul, nI_add, pk_sub, pk_rem4, nI_clamp, up2_o, up2_s, up2_i, cpV_o, cpV_i, f39, f42]
          refine fs_ret rfl rfl ?_
          exact hP _ _ _ _ ⟨rfl, rfl, rfl, hM2m, ko2⟩
        · have := c_nle (b := 3) h223 rfl rfl
          omega
      · exact absurd h205 (nI_4 k165)
  have loop : ∀ j i, i + j = ys.length → fl_R cy z0 (ev_M cy ext (d + 6)) 7 0 0 6 none kc_X7_gather Ret 108 [(0, .ref (z0 + mb)), (1, .int (nI h)), (2, .int (nI ys.length)), (3, .int (bI mk)), (4, .int (nI (160 * h))), (5, .int (nI i))] [] sh (cpV V (mb + 40) (160 * h + G.length) i (fun j => V (mb + 44) j)) n 0 0 := by
    intro j
    induction j with
    | zero =>
      intro i hi
      have hi2 : i = ys.length := by omega
      subst hi2
      refine fs_iload (pc2 := 110) rfl rfl rfl rfl ?_
      refine fs_iload_n (pc2 := 111) rfl rfl rfl rfl ?_
      try simp (disch := omega) only [nI_lit, pk_mul, nI_add, pk_sub, pk_rem4, nI_clamp, up2_o, up2_s, up2_i, cpV_o, cpV_i, e39]
      refine fs_icmp_ge (pc2 := 114) rfl rfl rfl (fun h111 => ?_) (fun h111 => ?_)
      · refine fs_aload_n (pc2 := 145) rfl rfl rfl rfl ?_
        refine fs_getr (pc2 := 148) rfl rfl rfl (by assumption) rfl ?_
        refine fs_iload_n (pc2 := 149) rfl rfl rfl rfl ?_
        refine fs_aload_n (pc2 := 150) rfl rfl rfl rfl ?_
        refine fs_getr (pc2 := 153) rfl rfl rfl (by assumption) rfl ?_
        refine fs_iload_n (pc2 := 154) rfl rfl rfl rfl ?_
        try simp (disch := omega) only [nI_lit, pk_mul, nI_add, pk_sub, pk_rem4, nI_clamp, up2_o, up2_s, up2_i, cpV_o, cpV_i, e39]
        refine fs_iald (pc2 := 155) rfl rfl rfl (by assumption) (vp_in_nI (by omega) (by decide)) ?_
        refine fs_iload_n (pc2 := 156) rfl rfl rfl rfl ?_
        refine fs_iadd (pc2 := 157) rfl rfl rfl ?_
        try simp (disch := omega) only [nI_lit, pk_mul, nI_add, pk_sub, pk_rem4, nI_clamp, up2_o, up2_s, up2_i, cpV_o, cpV_i, e39]
        refine fs_iast (pc2 := 158) rfl rfl rfl (by assumption) (vp_in_nI (by omega) (by decide)) ?_
        try simp (disch := omega) only [nI_lit, pk_mul, nI_add, pk_sub, pk_rem4, nI_clamp, up2_o, up2_s, up2_i, cpV_o, cpV_i, e39]
        rw [← hV2]
        exact j158 _
      · have := c_lt (a := ys.length) (b := ys.length) h111 rfl rfl
        omega
    | succ j ih =>
      intro i hi
      refine fs_iload (pc2 := 110) rfl rfl rfl rfl ?_
      refine fs_iload_n (pc2 := 111) rfl rfl rfl rfl ?_
      try simp (disch := omega) only [nI_lit, pk_mul, nI_add, pk_sub, pk_rem4, nI_clamp, up2_o, up2_s, up2_i, cpV_o, cpV_i, e39]
      refine fs_icmp_ge (pc2 := 114) rfl rfl rfl (fun h111 => ?_) (fun h111 => ?_)
      · have := c_nlt (a := i) (b := ys.length) h111 rfl rfl
        omega
      · refine fs_aload_n (pc2 := 115) rfl rfl rfl rfl ?_
        refine fs_getr (pc2 := 118) rfl rfl rfl (by assumption) rfl ?_
        refine fs_iload (pc2 := 120) rfl rfl rfl rfl ?_
        refine fs_aload_n (pc2 := 121) rfl rfl rfl rfl ?_
        refine fs_getr (pc2 := 124) rfl rfl rfl (by assumption) rfl ?_
        refine fs_iload_n (pc2 := 125) rfl rfl rfl rfl ?_
        try simp (disch := omega) only [nI_lit, pk_mul, nI_add, pk_sub, pk_rem4, nI_clamp, up2_o, up2_s, up2_i, cpV_o, cpV_i, e39]
        refine fs_iald (pc2 := 126) rfl rfl rfl (by assumption) (vp_in_nI (by omega) (by decide)) ?_
        refine fs_iadd (pc2 := 127) rfl rfl rfl ?_
        refine fs_iload (pc2 := 129) rfl rfl rfl rfl ?_
        refine fs_iadd (pc2 := 130) rfl rfl rfl ?_
        refine fs_aload_n (pc2 := 131) rfl rfl rfl rfl ?_
        refine fs_getr (pc2 := 134) rfl rfl rfl (by assumption) rfl ?_
        refine fs_iload (pc2 := 136) rfl rfl rfl rfl ?_
        try simp (disch := omega) only [nI_lit, pk_mul, nI_add, pk_sub, pk_rem4, nI_clamp, up2_o, up2_s, up2_i, cpV_o, cpV_i, e39]
        refine fs_iald (pc2 := 137) rfl rfl rfl (by assumption) (vp_in_nI (by omega) (by decide)) ?_
        try simp (disch := omega) only [nI_lit, pk_mul, nI_add, pk_sub, pk_rem4, nI_clamp, up2_o, up2_s, up2_i, cpV_o, cpV_i, e39]
        refine fs_iast (pc2 := 138) rfl rfl rfl (by assumption) (vp_in_nI (by omega) (by decide)) ?_
        refine fs_iinc (pc2 := 141) rfl rfl rfl (Nat.le_of_ble_eq_true rfl) rfl ?_
        refine fs_goto rfl rfl ?_
        try simp (disch := omega) only [nI_lit, pk_mul, nI_add, pk_sub, pk_rem4, nI_clamp, up2_o, up2_s, up2_i, cpV_o, cpV_i, e39]
        rw [cpV_1 rfl]
        exact ih (i + 1) (by omega)
  refine fs_sipush (pc2 := 101) rfl rfl rfl ?_
  refine fs_iload_n (pc2 := 102) rfl rfl rfl rfl ?_
  refine fs_imul (pc2 := 103) rfl rfl rfl ?_
  refine fs_istore (pc2 := 105) rfl rfl rfl (Nat.le_of_ble_eq_true rfl) ?_
  refine fs_iconst (pc2 := 106) rfl rfl rfl ?_
  refine fs_istore (pc2 := 108) rfl rfl rfl (Nat.le_of_ble_eq_true rfl) ?_
  try simp (disch := omega) only [nI_lit, pk_mul, nI_add, pk_sub, pk_rem4, nI_clamp, up2_o, up2_s, up2_i, cpV_o, cpV_i]
  have l0 := loop ys.length 0 (by omega)
  rw [cpV_0] at l0
  exact l0
set_option maxRecDepth 100000 in
set_option maxHeartbeats 4000000 in
theorem m_gather (hm : isMo sh mb) (hM : Mo V mb T S (va_up HH h H)) (hh : h < 2) {ys : List Nat} {mk : Bool} (ly : ys.length ≤ 27) (hy : ∀ j, j < ys.length → V (mb + 44) j = nI (ys.getD j 0) ∧ ys.getD j 0 < 256) (hI : HI H) (hT : ∀ i, i < 2 → T i < 2048) : fl_M cy z0 ext (d + 7) m_X7_gather [.ref (z0 + mb), .int (nI h), .int (nI ys.length), .int (bI mk)] sh V n (fun v sh' V' n' => v = none ∧ sh' = sh ∧ n' = n ∧ Mo V' mb (fun i => T i + 1) S (va_up HH h (ho_gth H mk ys)) ∧ KO mb V V') := by
  have m0 := hm.1
  have a39 : sh (mb + 39) = some (.inl (1, 2, none)) := hm.2 38 (1, 2) rfl
  have a40 : sh (mb + 40) = some (.inl (1, 320, none)) := hm.2 39 (1, 320) rfl
  have a42 : sh (mb + 42) = some (.inl (1, 2, none)) := hm.2 41 (1, 2) rfl
  have a44 : sh (mb + 44) = some (.inl (1, 32, none)) := hm.2 43 (1, 32) rfl
  have hMm := hM.mono (T' := fun i => T i + 1) (fun i hi => ⟨by omega, hT i hi⟩)
  have hG := (hM.host hh).2.2.2.2.2.1
  have hN := (hM.host hh).1
  obtain ⟨e39, l128, hGb⟩ := id hG
  have e42 : V (mb + 42) h = nI (H.1 12) := hN.2.2.2.2.1
  have hMd := hM.pG (G := []) hh (FM.refl.up (j := 39) (i := h) (v := nI 0) (by simp [own])) ⟨up2_s, by simp, fun j b hj => by simp at hj⟩
  have hNd := (hMd.host hh).1
  have hMD := hMd.pN hh (FM.refl.up (j := 42) (i := h) (v := nI (H.1 12 + 1)) (by simp [own])) (hNd.put 12 (Or.inr (Or.inl rfl)) (H.1 12 + 1) rfl) (va_up_ne _ _ (by decide))
  have koD : KO mb V (up2 (up2 V (mb + 39) h (nI 0)) (mb + 42) h (nI (H.1 12 + 1))) := (KO.refl.up (by decide)).up (by decide)
  have sw : up2 (up2 V (mb + 42) h (nI (H.1 12 + 1))) (mb + 39) h (nI 0) = up2 (up2 V (mb + 39) h (nI 0)) (mb + 42) h (nI (H.1 12 + 1)) := up2_swap (by omega)
  cases mk with
  | true =>
    refine fs_body rfl rfl (fun Ret hP => ?_)
    refine fs_iload_n (pc2 := 1) rfl rfl rfl rfl ?_
    try simp (disch := omega) only [nI_lit, pk_mul, nI_add, pk_sub, pk_rem4, nI_clamp, up2_o, up2_s, up2_i, cpV_o, cpV_i, e39, e42]
    refine fs_if_eq (pc2 := 4) rfl rfl rfl (fun h1 => ?_) (fun h1 => ?_)
    · exact absurd h1 (by decide)
    · refine fs_aload_n (pc2 := 5) rfl rfl rfl rfl ?_
      refine fs_getr (pc2 := 8) rfl rfl rfl (by assumption) rfl ?_
      refine fs_iload_n (pc2 := 9) rfl rfl rfl rfl ?_
      refine fs_aload_n (pc2 := 10) rfl rfl rfl rfl ?_
      refine fs_getr (pc2 := 13) rfl rfl rfl (by assumption) rfl ?_
      refine fs_iload_n (pc2 := 14) rfl rfl rfl rfl ?_
      try simp (disch := omega) only [nI_lit, pk_mul, nI_add, pk_sub, pk_rem4, nI_clamp, up2_o, up2_s, up2_i, cpV_o, cpV_i, e39, e42]
      refine fs_iald (pc2 := 15) rfl rfl rfl (by assumption) (vp_in_nI (by omega) (by decide)) ?_
      try simp (disch := omega) only [nI_lit, pk_mul, nI_add, pk_sub, pk_rem4, nI_clamp, up2_o, up2_s, up2_i, cpV_o, cpV_i, e39, e42]
      refine fs_if_le (pc2 := 18) rfl rfl rfl (fun h15 => ?_) (fun h15 => ?_)
      · have k15 : H.2.2.2.2.2.2.length ≤ 0 := c_le (b := 0) h15 rfl rfl
        have hG0 : H.2.2.2.2.2.2 = [] := List.eq_nil_of_length_eq_zero (by omega)
        refine fs_aload_n (pc2 := 30) rfl rfl rfl rfl ?_
        refine fs_getr (pc2 := 33) rfl rfl rfl (by assumption) rfl ?_
        refine fs_iload_n (pc2 := 34) rfl rfl rfl rfl ?_
        try simp (disch := omega) only [nI_lit, pk_mul, nI_add, pk_sub, pk_rem4, nI_clamp, up2_o, up2_s, up2_i, cpV_o, cpV_i, e39, e42]
        refine fs_iald (pc2 := 35) rfl rfl rfl (by assumption) (vp_in_nI (by omega) (by decide)) ?_
        try simp (disch := omega) only [nI_lit, pk_mul, nI_add, pk_sub, pk_rem4, nI_clamp, up2_o, up2_s, up2_i, cpV_o, cpV_i, e39, e42]
        refine fs_iast (pc2 := 36) rfl rfl rfl (by assumption) (vp_in_nI (by omega) (by decide)) ?_
        refine fs_aload_n (pc2 := 37) rfl rfl rfl rfl ?_
        refine fs_getr (pc2 := 40) rfl rfl rfl (by assumption) rfl ?_
        refine fs_iload_n (pc2 := 41) rfl rfl rfl rfl ?_
        refine fs_iconst (pc2 := 42) rfl rfl rfl ?_
        try simp (disch := omega) only [nI_lit, pk_mul, nI_add, pk_sub, pk_rem4, nI_clamp, up2_o, up2_s, up2_i, cpV_o, cpV_i, e39, e42]
        refine fs_iast (pc2 := 43) rfl rfl rfl (by assumption) (vp_in_nI (by omega) (by decide)) ?_
        refine fs_goto rfl rfl ?_
        try simp (disch := omega) only [nI_lit, pk_mul, nI_add, pk_sub, pk_rem4, nI_clamp, up2_o, up2_s, up2_i, cpV_o, cpV_i, e42]
        rw [up2_id (V := V) e42, up2_id (V := V) (by rw [e39, hG0]; rfl)]
        refine m_gath98 hm hM hh KO.refl ly hy (by omega) hI hT (fun v sh' V' n' hq => hP v sh' V' n' ?_)
        have eg : ho_gath H true ys = ho_gath2 H ys := by unfold ho_gath; rw [if_pos rfl, if_pos hG0]
        unfold ho_gth
        rw [eg]
        exact hq
      · have k15 : 0 < H.2.2.2.2.2.2.length := c_nle (b := 0) h15 rfl rfl
        have hG0 : H.2.2.2.2.2.2 ≠ [] := fun z => by rw [z] at k15; simp at k15
        refine fs_aload_n (pc2 := 19) rfl rfl rfl rfl ?_
        refine fs_getr (pc2 := 22) rfl rfl rfl (by assumption) rfl ?_
        refine fs_iload_n (pc2 := 23) rfl rfl rfl rfl ?_
        try simp (disch := omega) only [nI_lit, pk_mul, nI_add, pk_sub, pk_rem4, nI_clamp, up2_o, up2_s, up2_i, cpV_o, cpV_i, e39, e42]
        refine fs_iald (pc2 := 24) rfl rfl rfl (by assumption) (vp_in_nI (by omega) (by decide)) ?_
        refine fs_iconst (pc2 := 25) rfl rfl rfl ?_
        refine fs_iadd (pc2 := 26) rfl rfl rfl ?_
        refine fs_goto rfl rfl ?_
        try simp (disch := omega) only [nI_lit, pk_mul, nI_add, pk_sub, pk_rem4, nI_clamp, up2_o, up2_s, up2_i, cpV_o, cpV_i, e39, e42]
        refine fs_iast (pc2 := 36) rfl rfl rfl (by assumption) (vp_in_nI (by omega) (by decide)) ?_
        refine fs_aload_n (pc2 := 37) rfl rfl rfl rfl ?_
        refine fs_getr (pc2 := 40) rfl rfl rfl (by assumption) rfl ?_
        refine fs_iload_n (pc2 := 41) rfl rfl rfl rfl ?_
        refine fs_iconst (pc2 := 42) rfl rfl rfl ?_
        try simp (disch := omega) only [nI_lit, pk_mul, nI_add, pk_sub, pk_rem4, nI_clamp, up2_o, up2_s, up2_i, cpV_o, cpV_i, e39, e42]
        refine fs_iast (pc2 := 43) rfl rfl rfl (by assumption) (vp_in_nI (by omega) (by decide)) ?_
        refine fs_goto rfl rfl ?_
        try simp (disch := omega) only [nI_lit, pk_mul, nI_add, pk_sub, pk_rem4, nI_clamp, up2_o, up2_s, up2_i, cpV_o, cpV_i, e42]
        rw [sw]
        refine m_gath98 hm hMD hh koD ly (fun j hj => by simp (disch := omega) only [up2_o]; exact hy j hj) (by show 0 + _ ≤ 128; omega) hI hT (fun v sh' V' n' hq => hP v sh' V' n' ?_)
        have eg : ho_gath H true ys = ho_gath2 (ho_drop H) ys := by unfold ho_gath; rw [if_pos rfl, if_neg hG0]
        unfold ho_gth
        rw [eg]
        exact hq
  | false =>
    refine fs_body rfl rfl (fun Ret hP => ?_)
    refine fs_iload_n (pc2 := 1) rfl rfl rfl rfl ?_
    try simp (disch := omega) only [nI_lit, pk_mul, nI_add, pk_sub, pk_rem4, nI_clamp, up2_o, up2_s, up2_i, cpV_o, cpV_i, e39, e42]
    refine fs_if_eq (pc2 := 4) rfl rfl rfl (fun h1 => ?_) (fun h1 => ?_)
    · refine fs_aload_n (pc2 := 47) rfl rfl rfl rfl ?_
      refine fs_getr (pc2 := 50) rfl rfl rfl (by assumption) rfl ?_
      refine fs_iload_n (pc2 := 51) rfl rfl rfl rfl ?_
      try simp (disch := omega) only [nI_lit, pk_mul, nI_add, pk_sub, pk_rem4, nI_clamp, up2_o, up2_s, up2_i, cpV_o, cpV_i, e39, e42]
      refine fs_iald (pc2 := 52) rfl rfl rfl (by assumption) (vp_in_nI (by omega) (by decide)) ?_
      try simp (disch := omega) only [nI_lit, pk_mul, nI_add, pk_sub, pk_rem4, nI_clamp, up2_o, up2_s, up2_i, cpV_o, cpV_i, e39, e42]
      refine fs_if_ne (pc2 := 55) rfl rfl rfl (fun h52 => ?_) (fun h52 => ?_)
      · have k52 : H.2.2.2.2.2.2.length ≠ 0 := c_ne (b := 0) h52 rfl rfl
        have hG0 : H.2.2.2.2.2.2 ≠ [] := fun z => by rw [z] at k52; simp at k52
        refine fs_aload_n (pc2 := 67) rfl rfl rfl rfl ?_
        refine fs_getr (pc2 := 70) rfl rfl rfl (by assumption) rfl ?_
        refine fs_iload_n (pc2 := 71) rfl rfl rfl rfl ?_
        try simp (disch := omega) only [nI_lit, pk_mul, nI_add, pk_sub, pk_rem4, nI_clamp, up2_o, up2_s, up2_i, cpV_o, cpV_i, e39, e42]
        refine fs_iald (pc2 := 72) rfl rfl rfl (by assumption) (vp_in_nI (by omega) (by decide)) ?_
        refine fs_iload_n (pc2 := 73) rfl rfl rfl rfl ?_
        refine fs_iadd (pc2 := 74) rfl rfl rfl ?_
        refine fs_sipush (pc2 := 77) rfl rfl rfl ?_
        try simp (disch := omega) only [nI_lit, pk_mul, nI_add, pk_sub, pk_rem4, nI_clamp, up2_o, up2_s, up2_i, cpV_o, cpV_i, e39, e42]
        refine fs_icmp_le (pc2 := 80) rfl rfl rfl (fun h77 => ?_) (fun h77 => ?_)
        · have k77 : H.2.2.2.2.2.2.length + ys.length ≤ 128 := c_le (b := 128) h77 rfl rfl
          try simp (disch := omega) only [nI_lit, pk_mul, nI_add, pk_sub, pk_rem4, nI_clamp, up2_o, up2_s, up2_i, cpV_o, cpV_i]
          refine m_gath98 hm hM hh KO.refl ly hy k77 hI hT (fun v sh' V' n' hq => hP v sh' V' n' ?_)
          have eg : ho_gath H false ys = ho_gath2 H ys := by unfold ho_gath; rw [if_neg (by decide), if_neg hG0, if_neg (by omega)]
          unfold ho_gth
          rw [eg]
          exact hq
        · have k77 : 128 < H.2.2.2.2.2.2.length + ys.length := c_nle (b := 128) h77 rfl rfl
          refine fs_aload_n (pc2 := 81) rfl rfl rfl rfl ?_
          refine fs_getr (pc2 := 84) rfl rfl rfl (by assumption) rfl ?_
          refine fs_iload_n (pc2 := 85) rfl rfl rfl rfl ?_
          refine fs_iconst (pc2 := 86) rfl rfl rfl ?_
          try simp (disch := omega) only [nI_lit, pk_mul, nI_add, pk_sub, pk_rem4, nI_clamp, up2_o, up2_s, up2_i, cpV_o, cpV_i, e39, e42]
          refine fs_iast (pc2 := 87) rfl rfl rfl (by assumption) (vp_in_nI (by omega) (by decide)) ?_
          refine fs_aload_n (pc2 := 88) rfl rfl rfl rfl ?_
          refine fs_getr (pc2 := 91) rfl rfl rfl (by assumption) rfl ?_
          refine fs_iload_n (pc2 := 92) rfl rfl rfl rfl ?_
          refine fs_dup2 (pc2 := 93) rfl rfl rfl ?_
          try simp (disch := omega) only [nI_lit, pk_mul, nI_add, pk_sub, pk_rem4, nI_clamp, up2_o, up2_s, up2_i, cpV_o, cpV_i, e39, e42]
          refine fs_iald (pc2 := 94) rfl rfl rfl (by assumption) (vp_in_nI (by omega) (by decide)) ?_
          refine fs_iconst (pc2 := 95) rfl rfl rfl ?_
          refine fs_iadd (pc2 := 96) rfl rfl rfl ?_
          try simp (disch := omega) only [nI_lit, pk_mul, nI_add, pk_sub, pk_rem4, nI_clamp, up2_o, up2_s, up2_i, cpV_o, cpV_i, e39, e42]
          refine fs_iast (pc2 := 97) rfl rfl rfl (by assumption) (vp_in_nI (by omega) (by decide)) ?_
          try simp (disch := omega) only [nI_lit, pk_mul, nI_add, pk_sub, pk_rem4, nI_clamp, up2_o, up2_s, up2_i, cpV_o, cpV_i, e39, e42]
          refine fs_ret rfl rfl ?_
          have eg : ho_gath H false ys = (false, ho_drop H) := by unfold ho_gath; rw [if_neg (by decide), if_neg hG0, if_pos k77]
          refine hP _ _ _ _ ⟨rfl, rfl, rfl, ?_, koD⟩
          unfold ho_gth
          rw [eg]
          exact hMD.mono (T' := fun i => T i + 1) (fun i hi => ⟨by omega, hT i hi⟩)
      · have k52 : H.2.2.2.2.2.2.length = 0 := c_eq (b := 0) h52 rfl rfl
        have hG0 : H.2.2.2.2.2.2 = [] := List.eq_nil_of_length_eq_zero k52
        refine fs_aload_n (pc2 := 56) rfl rfl rfl rfl ?_
        refine fs_getr (pc2 := 59) rfl rfl rfl (by assumption) rfl ?_
        refine fs_iload_n (pc2 := 60) rfl rfl rfl rfl ?_
        refine fs_dup2 (pc2 := 61) rfl rfl rfl ?_
        try simp (disch := omega) only [nI_lit, pk_mul, nI_add, pk_sub, pk_rem4, nI_clamp, up2_o, up2_s, up2_i, cpV_o, cpV_i, e39, e42]
        refine fs_iald (pc2 := 62) rfl rfl rfl (by assumption) (vp_in_nI (by omega) (by decide)) ?_
        refine fs_iconst (pc2 := 63) rfl rfl rfl ?_
        refine fs_iadd (pc2 := 64) rfl rfl rfl ?_
        try simp (disch := omega) only [nI_lit, pk_mul, nI_add, pk_sub, pk_rem4, nI_clamp, up2_o, up2_s, up2_i, cpV_o, cpV_i, e39, e42]
        refine fs_iast (pc2 := 65) rfl rfl rfl (by assumption) (vp_in_nI (by omega) (by decide)) ?_
        try simp (disch := omega) only [nI_lit, pk_mul, nI_add, pk_sub, pk_rem4, nI_clamp, up2_o, up2_s, up2_i, cpV_o, cpV_i, e39, e42]
        refine fs_ret rfl rfl ?_
        have eg : ho_gath H false ys = (false, ho_drop H) := by unfold ho_gath; rw [if_neg (by decide), if_pos hG0]
        have e2 : up2 (up2 V (mb + 39) h (nI 0)) (mb + 42) h (nI (H.1 12 + 1)) = up2 V (mb + 42) h (nI (H.1 12 + 1)) := by rw [up2_id (V := V) (by rw [e39, hG0]; rfl)]
        rw [e2] at hMD koD
        refine hP _ _ _ _ ⟨rfl, rfl, rfl, ?_, koD⟩
        unfold ho_gth
        rw [eg]
        exact hMD.mono (T' := fun i => T i + 1) (fun i hi => ⟨by omega, hT i hi⟩)
    · exact absurd rfl h1
end MGATH
