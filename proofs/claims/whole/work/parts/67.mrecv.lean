/-- i kept texts have moved one place down -/
def shR (V : fl_V) (mb p i : Nat) : fl_V := fun a j => if a = mb + 23 ∧ p ≤ j ∧ j < p + i then V a (j + 1) else if a = mb + 24 ∧ 128 * p ≤ j ∧ j < 128 * (p + i) then V a (j + 128) else V a j
section SHR
variable {V : fl_V} {mb p i : Nat}
theorem shR_0 : shR V mb p 0 = V := by
  funext a j
  unfold shR
  rw [if_neg (by omega), if_neg (by omega)]
theorem shR_o {a : Nat} (h : a ≠ mb + 23 ∧ a ≠ mb + 24) : shR V mb p i a = V a := by
  funext j
  unfold shR
  rw [if_neg (by omega), if_neg (by omega)]
theorem shR_n {j : Nat} (h : p + i ≤ j) : shR V mb p i (mb + 23) j = V (mb + 23) j := by
  unfold shR
  rw [if_neg (by omega), if_neg (by omega)]
theorem shR_m {j : Nat} (h : 128 * (p + i) ≤ j) : shR V mb p i (mb + 24) j = V (mb + 24) j := by
  unfold shR
  rw [if_neg (by omega), if_neg (by omega)]
theorem shR_s {j : Nat} (h : p ≤ j ∧ j < p + i) : shR V mb p i (mb + 23) j = V (mb + 23) (j + 1) := by
  unfold shR
  rw [if_pos ⟨rfl, h⟩]
theorem shR_b {j : Nat} (h : 128 * p ≤ j ∧ j < 128 * (p + i)) : shR V mb p i (mb + 24) j = V (mb + 24) (j + 128) := by
  unfold shR
  rw [if_neg (by omega), if_pos ⟨rfl, h⟩]
theorem shR_1 {v : Int32} {f : Nat → Int32} (hv : v = V (mb + 23) (p + i + 1)) (hf : ∀ j, f j = V (mb + 24) (128 * (p + i) + 128 + j)) : cpV (up2 (shR V mb p i) (mb + 23) (p + i) v) (mb + 24) (128 * (p + i)) 128 f = shR V mb p (i + 1) := by
  funext a j
  by_cases a24 : a = mb + 24
  · subst a24
    by_cases q : 128 * (p + i) ≤ j ∧ j < 128 * (p + i) + 128
    · rw [cpV_s q, hf, shR_b (by omega)]; congr 1; omega
    · rw [cpV_i (by omega), up2_o (by omega)]
      by_cases q2 : 128 * p ≤ j ∧ j < 128 * (p + i)
      · rw [shR_b q2, shR_b (by omega)]
      · unfold shR
        rw [if_neg (by omega), if_neg (by omega), if_neg (by omega), if_neg (by omega)]
  · rw [cpV_o a24]
    by_cases a23 : a = mb + 23
    · subst a23
      by_cases q : j = p + i
      · subst q; rw [up2_s, hv, shR_s (by omega)]
      · rw [up2_i q]
        by_cases q2 : p ≤ j ∧ j < p + i
        · rw [shR_s q2, shR_s (by omega)]
        · unfold shR
          rw [if_neg (by omega), if_neg (by omega), if_neg (by omega), if_neg (by omega)]
    · rw [up2_o a23, shR_o ⟨a23, a24⟩, shR_o ⟨a23, a24⟩]
theorem FM_shR {V0 : fl_V} {c : Nat} (hF : FM mb c V0 V) (hp : p = 4 * c) (hi : i ≤ 3) (hc : c < 8) : FM mb c V0 (shR V mb p i) := by
  intro j x q
  rw [← hF j x q]
  show (if _ then _ else if _ then _ else _) = _
  split
  · next e =>
    exfalso; apply q
    rw [show j = 23 by omega]; simp [own] <;> omega
  · split
    · next e =>
      exfalso; apply q
      rw [show j = 24 by omega]; simp [own] <;> omega
    · rfl
theorem OU_shR {V0 : fl_V} (h : OU mb V0 V) : OU mb V0 (shR V mb p i) := fun a ha => by rw [shR_o (by omega)]; exact h a ha
theorem MC.dropR {c : Nat} {y : Ch} {x : List Nat} {xs : List (List Nat)} (hM : MC V mb c y) (hx : y.2.2.2.1 = x :: xs) : MC (shR (up2 V (mb + 22) c (nI xs.length)) mb (4 * c) xs.length) mb c (rxDrop y xs) := by
  obtain ⟨g1, g1b, g2, g3, g4, g5, g6, g7, g8, g9, g10, g11⟩ := hM
  rw [hx] at g10 g11
  simp only [List.length_cons] at g10
  refine ⟨fun p hp => ?_, g1b, ?_, ?_, g4, fun q x hq => ?_, ?_, g7, ?_, ?_, ?_, fun q x hq => ?_⟩
  · have c2 := chO_2 p hp
    rw [shR_o (by omega), up2_o (by omega)]; exact g1 p hp
  · rw [shR_o (by omega), up2_o (by omega)]; exact g2
  · rw [shR_o (by omega), up2_o (by omega)]; exact g3
  · rw [shR_o (by omega), up2_o (by omega), shR_o (by omega), up2_o (by omega)]; exact g5 q x hq
  · rw [shR_o (by omega), up2_o (by omega)]; exact g6
  · rw [shR_o (by omega), up2_o (by omega)]; exact g8
  · rw [shR_o (by omega)]; exact up2_s
  · show xs.length ≤ 4; omega
  · have hq2 : xs[q]? = some x := hq
    have lq := (List.getElem?_eq_some_iff.mp hq2).1
    obtain ⟨a1, a2, a3⟩ := g11 (q + 1) x (by simpa using hq2)
    rw [shR_s (by omega), up2_o (by omega)]
    refine ⟨a1, a2, fun j b hj => ?_⟩
    have lj := (List.getElem?_eq_some_iff.mp hj).1
    rw [shR_b (by omega), up2_o (by omega), show 128 * (4 * c + q) + j + 128 = 128 * (4 * c + (q + 1)) + j by omega]
    exact a3 j b hj
end SHR
section MRECV
variable {cy : Nat → ClassId} {z0 : Nat} {ext : Nat → Nat → List Value → ev_H → Nat → ev_P → Prop} {d : Nat} {sh : fl_S} {V : fl_V} {n mb : Nat} {T : Nat → Nat} {S : List Nat} {HH : Nat → Ho} {H : Ho} {h k : Nat}
set_option maxRecDepth 100000 in
set_option maxHeartbeats 4000000 in
theorem m_receive0 (hm : isMo sh mb) (hM : Mo V mb T S HH) (hh : h < 2) (hk : k < 4) (hr : ((HH h).2.1 k).2.2.2.1 = []) : fl_M cy z0 ext (d + 4) m_X7_receive [.ref (z0 + mb), .int (nI h), .int (nI (64 + k))] sh V n (fun v sh' V' n' => v = some (.int (-1)) ∧ sh' = sh ∧ n' = n ∧ Mo V' mb T S HH ∧ V' mb 0 = nI 0 ∧ OU mb V V') := by
  have m0 := hm.1
  have a1 : sh (mb + 1) = some (.inl (1, 120, none)) := hm.2 0 (1, 120) rfl
  have a22 : sh (mb + 22) = some (.inl (1, 8, none)) := hm.2 21 (1, 8) rfl
  have a23 : sh (mb + 23) = some (.inl (1, 32, none)) := hm.2 22 (1, 32) rfl
  have a24 : sh (mb + 24) = some (.inl (1, 4096, none)) := hm.2 23 (1, 4096) rfl
  have hHo := isHostM_nI hh
  have hM1 : Mo (up2 V mb 0 (nI 0)) mb T S (va_up HH h (HH h)) := (hM.at (h := h)).tmp FM.zero
  have ek : 4 * h + (64 + k) - 64 = 4 * h + k := by omega
  have hC := (hM.2 h hh).2.2.2.2.2.2 k hk
  have e22 := hC.2.2.2.2.2.2.2.2.2.1
  have l22 := hC.2.2.2.2.2.2.2.2.2.2.1
  rw [hr] at e22
  rw [show ([] : List (List Nat)).length = 0 from rfl] at e22
  refine fs_body rfl rfl (fun Ret hP => ?_)
  refine fs_aload_n (pc2 := 1) rfl rfl rfl rfl ?_
  refine fs_iload_n (pc2 := 2) rfl rfl rfl rfl ?_
  refine fs_iload_n (pc2 := 3) rfl rfl rfl rfl ?_
  try simp (disch := omega) only [nI_lit, pk_mul, nI_add, pk_sub, pk_rem4, nI_clamp, up2_o, up2_s, up2_i, cpV_o, cpV_i, ek, e22]
  refine fs_calls (pc2 := 6) rfl rfl rfl rfl rfl rfl ⟨rfl, rfl⟩ (Nat.le_of_ble_eq_true rfl) (Nat.le_of_ble_eq_true rfl) (Nat.le_of_ble_eq_true rfl) (m_isChannel (u := nI h) (w := nI (64 + k))) (fun v9 sh9 V9 n9 hp9 => ?_)
  obtain ⟨ea9, eb9, ec9, hv9⟩ := hp9
  cases ea9
  obtain rfl := eb9.symm
  obtain rfl := ec9.symm
  cases hv9
  rw [isChM_nI hh hk]
  try simp (disch := omega) only [nI_lit, pk_mul, nI_add, pk_sub, pk_rem4, nI_clamp, up2_o, up2_s, up2_i, cpV_o, cpV_i, ek, e22]
  refine fs_if_eq (pc2 := 9) rfl rfl rfl (fun h6 => ?_) (fun h6 => ?_)
  · first | exact absurd h6 (by decide) | exact absurd (by decide) h6
  · refine fs_iconst (pc2 := 10) rfl rfl rfl ?_
    refine fs_goto rfl rfl ?_
    try simp (disch := omega) only [nI_lit, pk_mul, nI_add, pk_sub, pk_rem4, nI_clamp, up2_o, up2_s, up2_i, cpV_o, cpV_i, ek, e22]
    refine fs_callv (pc2 := 17) rfl rfl rfl rfl ⟨rfl, rfl⟩ (Nat.le_of_ble_eq_true rfl) (Nat.le_of_ble_eq_true rfl) (Nat.le_of_ble_eq_true rfl) (fs_rcv rfl (by assumption)) (m_refusedE hm (w := nI 0)) (fun v9 sh9 V9 n9 hp9 => ?_)
    obtain ⟨ea9, eb9, ec9, hv9⟩ := hp9
    cases ea9
    obtain rfl := eb9.symm
    obtain rfl := ec9.symm
    cases hv9
    rw [rf0]
    try simp (disch := omega) only [nI_lit, pk_mul, nI_add, pk_sub, pk_rem4, nI_clamp, up2_o, up2_s, up2_i, cpV_o, cpV_i, ek, e22]
    refine fs_if_eq (pc2 := 20) rfl rfl rfl (fun h17 => ?_) (fun h17 => ?_)
    · refine fs_iconst (pc2 := 23) rfl rfl rfl ?_
      refine fs_iload_n (pc2 := 24) rfl rfl rfl rfl ?_
      refine fs_imul (pc2 := 25) rfl rfl rfl ?_
      refine fs_iload_n (pc2 := 26) rfl rfl rfl rfl ?_
      refine fs_iadd (pc2 := 27) rfl rfl rfl ?_
      refine fs_bipush (pc2 := 29) rfl rfl rfl ?_
      refine fs_isub (pc2 := 30) rfl rfl rfl ?_
      refine fs_istore_n (pc2 := 31) rfl rfl rfl (Nat.le_of_ble_eq_true rfl) ?_
      refine fs_aload_n (pc2 := 32) rfl rfl rfl rfl ?_
      refine fs_getr (pc2 := 35) rfl rfl rfl (by assumption) rfl ?_
      refine fs_iload_n (pc2 := 36) rfl rfl rfl rfl ?_
      try simp (disch := omega) only [nI_lit, pk_mul, nI_add, pk_sub, pk_rem4, nI_clamp, up2_o, up2_s, up2_i, cpV_o, cpV_i, ek, e22]
      refine fs_iald (pc2 := 37) rfl rfl rfl (by assumption) (vp_in_nI (by omega) (by decide)) ?_
      try simp (disch := omega) only [nI_lit, pk_mul, nI_add, pk_sub, pk_rem4, nI_clamp, up2_o, up2_s, up2_i, cpV_o, cpV_i, ek, e22]
      refine fs_if_ne (pc2 := 40) rfl rfl rfl (fun h37 => ?_) (fun h37 => ?_)
      · first | exact absurd h37 (by decide) | exact absurd (by decide) h37
      · refine fs_iconst (pc2 := 41) rfl rfl rfl ?_
        try simp (disch := omega) only [nI_lit, pk_mul, nI_add, pk_sub, pk_rem4, nI_clamp, up2_o, up2_s, up2_i, cpV_o, cpV_i, ek, e22]
        refine fs_iret rfl rfl True.intro ?_
        rw [va_up_id] at hM1
        exact hP _ _ _ _ ⟨rfl, rfl, rfl, hM1, up2_s, OU.zero⟩
    · first | exact absurd h17 (by decide) | exact absurd (by decide) h17
set_option maxRecDepth 100000 in
set_option maxHeartbeats 4000000 in
theorem m_receive (hm : isMo sh mb) (hM : Mo V mb T S HH) (hh : h < 2) (hk : k < 4) {x : List Nat} {xs : List (List Nat)} (hr : ((HH h).2.1 k).2.2.2.1 = x :: xs) : fl_M cy z0 ext (d + 4) m_X7_receive [.ref (z0 + mb), .int (nI h), .int (nI (64 + k))] sh V n (fun v sh' V' n' => v = some (.int (nI x.length)) ∧ sh' = sh ∧ n' = n ∧ Mo V' mb T x (va_up HH h (hoC (HH h) k (rxDrop ((HH h).2.1 k) xs))) ∧ V' mb 0 = nI 0 ∧ OU mb V V') := by
  have m0 := hm.1
  have a1 : sh (mb + 1) = some (.inl (1, 120, none)) := hm.2 0 (1, 120) rfl
  have a22 : sh (mb + 22) = some (.inl (1, 8, none)) := hm.2 21 (1, 8) rfl
  have a23 : sh (mb + 23) = some (.inl (1, 32, none)) := hm.2 22 (1, 32) rfl
  have a24 : sh (mb + 24) = some (.inl (1, 4096, none)) := hm.2 23 (1, 4096) rfl
  have hHo := isHostM_nI hh
  have hM1 : Mo (up2 V mb 0 (nI 0)) mb T S (va_up HH h (HH h)) := (hM.at (h := h)).tmp FM.zero
  have ek : 4 * h + (64 + k) - 64 = 4 * h + k := by omega
  have hC := (hM.2 h hh).2.2.2.2.2.2 k hk
  have e22 := hC.2.2.2.2.2.2.2.2.2.1
  have l22 := hC.2.2.2.2.2.2.2.2.2.2.1
  obtain ⟨e23, lx, hx⟩ := hC.2.2.2.2.2.2.2.2.2.2.2 0 x (by rw [hr]; rfl)
  rw [hr] at e22 l22
  simp only [List.length_cons] at e22 l22
  simp only [Nat.add_zero] at e23 hx
  obtain ⟨c, hc⟩ : ∃ c, c = 4 * h + k := ⟨_, rfl⟩
  rw [← hc] at hC e22 e23 hx ek
  have hc8 : c < 8 := by omega
  obtain ⟨V1, hV1⟩ : ∃ V1, V1 = up2 (up2 V mb 0 (nI 0)) mb 2 (nI x.length) := ⟨_, rfl⟩
  obtain ⟨V2, hV2⟩ : ∃ V2, V2 = cpV V1 (mb + 1) 0 x.length (fun j => V (mb + 24) (128 * (4 * c) + j)) := ⟨_, rfl⟩
  obtain ⟨V3, hV3⟩ : ∃ V3, V3 = up2 V2 (mb + 22) c (nI xs.length) := ⟨_, rfl⟩
  have r1 : ∀ a, a ≠ mb → V1 a = V a := fun a q => by rw [hV1, up2_o q, up2_o q]
  have r3 : ∀ a, a ≠ mb → a ≠ mb + 1 → a ≠ mb + 22 → V3 a = V a := fun a q1 q2 q3 => by rw [hV3, up2_o q3, hV2, cpV_o q2, r1 a q1]
  have s1 : V1 mb 2 = nI x.length := by rw [hV1, up2_s]
  have s3 : V3 mb 2 = nI x.length := by rw [hV3, up2_o (by omega), hV2, cpV_o (by omega), s1]
  have s22 : V3 (mb + 22) c = nI xs.length := by rw [hV3, up2_s]
  have hM2 : Mo V2 mb T x (va_up HH h (HH h)) := by
    rw [hV2, hV1]
    refine hM1.putS ⟨by rw [cpV_o (by omega), up2_s], by omega, fun j b hj => ?_⟩ ((FM.refl.up (j := 0) (i := 2) (by simp [own])).cp (j := 1) (fun x a1 a2 => by simp [own]))
    have lj := (List.getElem?_eq_some_iff.mp hj).1
    rw [cpV_s (by omega), show 0 + j - 0 = j by omega]
    exact hx j b hj
  have f2 : V2 mb 0 = nI 0 := by rw [hV2, cpV_o (by omega), hV1, up2_i (by omega), up2_s]
  have o2 : OU mb V V2 := by rw [hV2, hV1]; exact (OU.zero.up0).cp (by decide)
  refine fs_body rfl rfl (fun Ret hP => ?_)
  have inner : ∀ i, i < xs.length → ∀ (W : fl_V), (∀ (V4 : fl_V), V4 = cpV W (mb + 24) (128 * (4 * c + i)) 128 (fun j => V3 (mb + 24) (128 * (4 * c + i) + 128 + j)) → fl_R cy z0 (ev_M cy ext (d + 3)) 7 0 0 7 (some .int) kc_X7_receive Ret 111 [(0, .ref (z0 + mb)), (1, .int (nI h)), (2, .int (nI (64 + k))), (3, .int (nI c)), (4, .int (nI (4 * c))), (5, .int (nI (4 * c + i + 1))), (6, .int (nI 128))] [] sh V4 n 0 0) → (∀ j, 128 * (4 * c + i) + 128 ≤ j → W (mb + 24) j = V3 (mb + 24) j) → ∀ j i2, i2 + j = 128 → fl_R cy z0 (ev_M cy ext (d + 3)) 7 0 0 7 (some .int) kc_X7_receive Ret 144 [(0, .ref (z0 + mb)), (1, .int (nI h)), (2, .int (nI (64 + k))), (3, .int (nI c)), (4, .int (nI (4 * c))), (5, .int (nI (4 * c + i))), (6, .int (nI i2))] [] sh (cpV W (mb + 24) (128 * (4 * c + i)) i2 (fun j => V3 (mb + 24) (128 * (4 * c + i) + 128 + j))) n 0 0 := by
    intro i hi W hnext hr j
    induction j with
    | zero =>
      intro i2 h2
      have hi2 : i2 = 128 := by omega
      subst hi2
      refine fs_iload (pc2 := 146) rfl rfl rfl rfl ?_
      refine fs_sipush (pc2 := 149) rfl rfl rfl ?_
      try simp (disch := omega) only [nI_lit, pk_mul, nI_add, pk_sub, pk_rem4, nI_clamp, up2_o, up2_s, up2_i, cpV_o, cpV_i]
      refine fs_icmp_ge (pc2 := 152) rfl rfl rfl (fun h149 => ?_) (fun h149 => ?_)
      · refine fs_iinc (pc2 := 193) rfl rfl rfl (Nat.le_of_ble_eq_true rfl) rfl ?_
        refine fs_goto rfl rfl ?_
        try simp (disch := omega) only [nI_lit, pk_mul, nI_add, pk_sub, pk_rem4, nI_clamp, up2_o, up2_s, up2_i, cpV_o, cpV_i]
        exact hnext _ rfl
      · exact absurd h149 (by decide)
    | succ j ih =>
      intro i2 h2
      have hr2 := hr (128 * (4 * c + i) + 128 + i2) (by omega)
      refine fs_iload (pc2 := 146) rfl rfl rfl rfl ?_
      refine fs_sipush (pc2 := 149) rfl rfl rfl ?_
      try simp (disch := omega) only [nI_lit, pk_mul, nI_add, pk_sub, pk_rem4, nI_clamp, up2_o, up2_s, up2_i, cpV_o, cpV_i, hr2]
      refine fs_icmp_ge (pc2 := 152) rfl rfl rfl (fun h149 => ?_) (fun h149 => ?_)
      · exact absurd (nI_lt (a := i2) (b := 128) (by omega) (by decide)) h149
      · refine fs_aload_n (pc2 := 153) rfl rfl rfl rfl ?_
        refine fs_getr (pc2 := 156) rfl rfl rfl (by assumption) rfl ?_
        refine fs_sipush (pc2 := 159) rfl rfl rfl ?_
        refine fs_iload (pc2 := 161) rfl rfl rfl rfl ?_
        refine fs_imul (pc2 := 162) rfl rfl rfl ?_
        refine fs_iload (pc2 := 164) rfl rfl rfl rfl ?_
        refine fs_iadd (pc2 := 165) rfl rfl rfl ?_
        refine fs_aload_n (pc2 := 166) rfl rfl rfl rfl ?_
        refine fs_getr (pc2 := 169) rfl rfl rfl (by assumption) rfl ?_
        refine fs_sipush (pc2 := 172) rfl rfl rfl ?_
        refine fs_iload (pc2 := 174) rfl rfl rfl rfl ?_
        refine fs_imul (pc2 := 175) rfl rfl rfl ?_
        refine fs_sipush (pc2 := 178) rfl rfl rfl ?_
        refine fs_iadd (pc2 := 179) rfl rfl rfl ?_
        refine fs_iload (pc2 := 181) rfl rfl rfl rfl ?_
        refine fs_iadd (pc2 := 182) rfl rfl rfl ?_
        try simp (disch := omega) only [nI_lit, pk_mul, nI_add, pk_sub, pk_rem4, nI_clamp, up2_o, up2_s, up2_i, cpV_o, cpV_i, hr2]
        refine fs_iald (pc2 := 183) rfl rfl rfl (by assumption) (vp_in_nI (by omega) (by decide)) ?_
        try simp (disch := omega) only [nI_lit, pk_mul, nI_add, pk_sub, pk_rem4, nI_clamp, up2_o, up2_s, up2_i, cpV_o, cpV_i, hr2]
        refine fs_iast (pc2 := 184) rfl rfl rfl (by assumption) (vp_in_nI (by omega) (by decide)) ?_
        refine fs_iinc (pc2 := 187) rfl rfl rfl (Nat.le_of_ble_eq_true rfl) rfl ?_
        refine fs_goto rfl rfl ?_
        try simp (disch := omega) only [nI_lit, pk_mul, nI_add, pk_sub, pk_rem4, nI_clamp, up2_o, up2_s, up2_i, cpV_o, cpV_i, hr2]
        rw [cpV_1 rfl]
        exact ih (i2 + 1) (by omega)
  have outer : ∀ j i (T6 : List (Nat × Value)), i + j = xs.length → (T6 = [] ∨ ∃ q, T6 = [(6, .int q)]) → fl_R cy z0 (ev_M cy ext (d + 3)) 7 0 0 7 (some .int) kc_X7_receive Ret 111 ([(0, .ref (z0 + mb)), (1, .int (nI h)), (2, .int (nI (64 + k))), (3, .int (nI c)), (4, .int (nI (4 * c))), (5, .int (nI (4 * c + i)))] ++ T6) [] sh (shR V3 mb (4 * c) i) n 0 0 := by
    intro j
    induction j with
    | zero =>
      intro i T6 hi hT6
      have hi2 : i = xs.length := by omega
      subst hi2
      rcases hT6 with rfl | ⟨q5, rfl⟩
      · refine fs_iload (pc2 := 113) rfl rfl rfl rfl ?_
        refine fs_iload (pc2 := 115) rfl rfl rfl rfl ?_
        refine fs_aload_n (pc2 := 116) rfl rfl rfl rfl ?_
        refine fs_getr (pc2 := 119) rfl rfl rfl (by assumption) rfl ?_
        refine fs_iload_n (pc2 := 120) rfl rfl rfl rfl ?_
        first | simp (disch := omega) only [nI_lit, pk_mul, nI_add, pk_sub, pk_rem4, nI_clamp, up2_o, up2_s, up2_i, cpV_o, cpV_i, shR_o, s22, s3] | simp (disch := omega) only [nI_lit, pk_mul, nI_add, pk_sub, pk_rem4, nI_clamp, up2_o, up2_s, up2_i, cpV_o, cpV_i] | skip
        refine fs_iald (pc2 := 121) rfl rfl rfl (by assumption) (vp_in_nI (by omega) (by decide)) ?_
        refine fs_iadd (pc2 := 122) rfl rfl rfl ?_
        first | simp (disch := omega) only [nI_lit, pk_mul, nI_add, pk_sub, pk_rem4, nI_clamp, up2_o, up2_s, up2_i, cpV_o, cpV_i, shR_o, s22, s3] | simp (disch := omega) only [nI_lit, pk_mul, nI_add, pk_sub, pk_rem4, nI_clamp, up2_o, up2_s, up2_i, cpV_o, cpV_i] | skip
        refine fs_icmp_ge (pc2 := 125) rfl rfl rfl (fun h122 => ?_) (fun h122 => ?_)
        · refine fs_aload_n (pc2 := 197) rfl rfl rfl rfl ?_
          refine fs_geti (pc2 := 200) rfl rfl rfl (by assumption) rfl ?_
          first | simp (disch := omega) only [nI_lit, pk_mul, nI_add, pk_sub, pk_rem4, nI_clamp, up2_o, up2_s, up2_i, cpV_o, cpV_i, shR_o, s22, s3] | simp (disch := omega) only [nI_lit, pk_mul, nI_add, pk_sub, pk_rem4, nI_clamp, up2_o, up2_s, up2_i, cpV_o, cpV_i] | skip
          refine fs_iret rfl rfl True.intro ?_
          have hC2 := (hM2.host hh).2.2.2.2.2.2 k hk
          rw [← hc] at hC2
          have hM3 := hM2.pC (V' := shR V3 mb (4 * c) xs.length) hh hk (by rw [← hc]; exact FM_shR (by rw [hV3]; exact FM.refl.up (j := 22) (by simp [own])) rfl (by omega) hc8) (by rw [← hc, hV3]; exact hC2.dropR hr)
          exact hP _ _ _ _ ⟨rfl, rfl, rfl, hM3, by rw [shR_o (by omega), hV3, up2_o (by omega)]; exact f2, OU_shR (by rw [hV3]; exact o2.up (by decide))⟩
        · have := c_lt (a := 4 * c + xs.length) (b := 4 * c + xs.length) h122 rfl rfl
          omega
      · refine fs_iload (pc2 := 113) rfl rfl rfl rfl ?_
        refine fs_iload (pc2 := 115) rfl rfl rfl rfl ?_
        refine fs_aload_n (pc2 := 116) rfl rfl rfl rfl ?_
        refine fs_getr (pc2 := 119) rfl rfl rfl (by assumption) rfl ?_
        refine fs_iload_n (pc2 := 120) rfl rfl rfl rfl ?_
        first | simp (disch := omega) only [nI_lit, pk_mul, nI_add, pk_sub, pk_rem4, nI_clamp, up2_o, up2_s, up2_i, cpV_o, cpV_i, shR_o, s22, s3] | simp (disch := omega) only [nI_lit, pk_mul, nI_add, pk_sub, pk_rem4, nI_clamp, up2_o, up2_s, up2_i, cpV_o, cpV_i] | skip
        refine fs_iald (pc2 := 121) rfl rfl rfl (by assumption) (vp_in_nI (by omega) (by decide)) ?_
        refine fs_iadd (pc2 := 122) rfl rfl rfl ?_
        first | simp (disch := omega) only [nI_lit, pk_mul, nI_add, pk_sub, pk_rem4, nI_clamp, up2_o, up2_s, up2_i, cpV_o, cpV_i, shR_o, s22, s3] | simp (disch := omega) only [nI_lit, pk_mul, nI_add, pk_sub, pk_rem4, nI_clamp, up2_o, up2_s, up2_i, cpV_o, cpV_i] | skip
        refine fs_icmp_ge (pc2 := 125) rfl rfl rfl (fun h122 => ?_) (fun h122 => ?_)
        · refine fs_aload_n (pc2 := 197) rfl rfl rfl rfl ?_
          refine fs_geti (pc2 := 200) rfl rfl rfl (by assumption) rfl ?_
          first | simp (disch := omega) only [nI_lit, pk_mul, nI_add, pk_sub, pk_rem4, nI_clamp, up2_o, up2_s, up2_i, cpV_o, cpV_i, shR_o, s22, s3] | simp (disch := omega) only [nI_lit, pk_mul, nI_add, pk_sub, pk_rem4, nI_clamp, up2_o, up2_s, up2_i, cpV_o, cpV_i] | skip
          refine fs_iret rfl rfl True.intro ?_
          have hC2 := (hM2.host hh).2.2.2.2.2.2 k hk
          rw [← hc] at hC2
          have hM3 := hM2.pC (V' := shR V3 mb (4 * c) xs.length) hh hk (by rw [← hc]; exact FM_shR (by rw [hV3]; exact FM.refl.up (j := 22) (by simp [own])) rfl (by omega) hc8) (by rw [← hc, hV3]; exact hC2.dropR hr)
          exact hP _ _ _ _ ⟨rfl, rfl, rfl, hM3, by rw [shR_o (by omega), hV3, up2_o (by omega)]; exact f2, OU_shR (by rw [hV3]; exact o2.up (by decide))⟩
        · have := c_lt (a := 4 * c + xs.length) (b := 4 * c + xs.length) h122 rfl rfl
          omega
    | succ j ih =>
      intro i T6 hi hT6
      obtain ⟨f23, hf23⟩ : ∃ v, v = V3 (mb + 23) (4 * c + i + 1) := ⟨_, rfl⟩
      have hf23b : V3 (mb + 23) (4 * c + i + 1) = f23 := hf23.symm
      rcases hT6 with rfl | ⟨q5, rfl⟩
      · refine fs_iload (pc2 := 113) rfl rfl rfl rfl ?_
        refine fs_iload (pc2 := 115) rfl rfl rfl rfl ?_
        refine fs_aload_n (pc2 := 116) rfl rfl rfl rfl ?_
        refine fs_getr (pc2 := 119) rfl rfl rfl (by assumption) rfl ?_
        refine fs_iload_n (pc2 := 120) rfl rfl rfl rfl ?_
        first | simp (disch := omega) only [nI_lit, pk_mul, nI_add, pk_sub, pk_rem4, nI_clamp, up2_o, up2_s, up2_i, cpV_o, cpV_i, shR_o, shR_n, s22, hf23b] | simp (disch := omega) only [nI_lit, pk_mul, nI_add, pk_sub, pk_rem4, nI_clamp, up2_o, up2_s, up2_i, cpV_o, cpV_i] | skip
        refine fs_iald (pc2 := 121) rfl rfl rfl (by assumption) (vp_in_nI (by omega) (by decide)) ?_
        refine fs_iadd (pc2 := 122) rfl rfl rfl ?_
        first | simp (disch := omega) only [nI_lit, pk_mul, nI_add, pk_sub, pk_rem4, nI_clamp, up2_o, up2_s, up2_i, cpV_o, cpV_i, shR_o, shR_n, s22, hf23b] | simp (disch := omega) only [nI_lit, pk_mul, nI_add, pk_sub, pk_rem4, nI_clamp, up2_o, up2_s, up2_i, cpV_o, cpV_i] | skip
        refine fs_icmp_ge (pc2 := 125) rfl rfl rfl (fun h122 => ?_) (fun h122 => ?_)
        · have := c_nlt (a := 4 * c + i) (b := 4 * c + xs.length) h122 rfl rfl
          omega
        · refine fs_aload_n (pc2 := 126) rfl rfl rfl rfl ?_
          refine fs_getr (pc2 := 129) rfl rfl rfl (by assumption) rfl ?_
          refine fs_iload (pc2 := 131) rfl rfl rfl rfl ?_
          refine fs_aload_n (pc2 := 132) rfl rfl rfl rfl ?_
          refine fs_getr (pc2 := 135) rfl rfl rfl (by assumption) rfl ?_
          refine fs_iload (pc2 := 137) rfl rfl rfl rfl ?_
          refine fs_iconst (pc2 := 138) rfl rfl rfl ?_
          refine fs_iadd (pc2 := 139) rfl rfl rfl ?_
          first | simp (disch := omega) only [nI_lit, pk_mul, nI_add, pk_sub, pk_rem4, nI_clamp, up2_o, up2_s, up2_i, cpV_o, cpV_i, shR_o, shR_n, s22, hf23b] | simp (disch := omega) only [nI_lit, pk_mul, nI_add, pk_sub, pk_rem4, nI_clamp, up2_o, up2_s, up2_i, cpV_o, cpV_i] | skip
          refine fs_iald (pc2 := 140) rfl rfl rfl (by assumption) (vp_in_nI (by omega) (by decide)) ?_
          first | simp (disch := omega) only [nI_lit, pk_mul, nI_add, pk_sub, pk_rem4, nI_clamp, up2_o, up2_s, up2_i, cpV_o, cpV_i, shR_o, shR_n, s22, hf23b] | simp (disch := omega) only [nI_lit, pk_mul, nI_add, pk_sub, pk_rem4, nI_clamp, up2_o, up2_s, up2_i, cpV_o, cpV_i] | skip
          refine fs_iast (pc2 := 141) rfl rfl rfl (by assumption) (vp_in_nI (by omega) (by decide)) ?_
          refine fs_iconst (pc2 := 142) rfl rfl rfl ?_
          refine fs_istore (pc2 := 144) rfl rfl rfl (Nat.le_of_ble_eq_true rfl) ?_
          try simp (disch := omega) only [nI_lit, pk_mul, nI_add, pk_sub, pk_rem4, nI_clamp, up2_o, up2_s, up2_i, cpV_o, cpV_i, shR_o, shR_n, hf23b]
          have l0 := inner i (by omega) (up2 (shR V3 mb (4 * c) i) (mb + 23) (4 * c + i) f23) ?_ ?_ 128 0 (by omega)
          · rw [cpV_0] at l0
            exact l0
          · intro V4 hV4
            rw [hV4, shR_1 hf23 (fun j => rfl)]
            exact ih (i + 1) [(6, .int (nI 128))] (by omega) (Or.inr ⟨_, rfl⟩)
          · intro j hj
            rw [up2_o (by omega), shR_m (by omega)]
      · refine fs_iload (pc2 := 113) rfl rfl rfl rfl ?_
        refine fs_iload (pc2 := 115) rfl rfl rfl rfl ?_
        refine fs_aload_n (pc2 := 116) rfl rfl rfl rfl ?_
        refine fs_getr (pc2 := 119) rfl rfl rfl (by assumption) rfl ?_
        refine fs_iload_n (pc2 := 120) rfl rfl rfl rfl ?_
        first | simp (disch := omega) only [nI_lit, pk_mul, nI_add, pk_sub, pk_rem4, nI_clamp, up2_o, up2_s, up2_i, cpV_o, cpV_i, shR_o, shR_n, s22, hf23b] | simp (disch := omega) only [nI_lit, pk_mul, nI_add, pk_sub, pk_rem4, nI_clamp, up2_o, up2_s, up2_i, cpV_o, cpV_i] | skip
        refine fs_iald (pc2 := 121) rfl rfl rfl (by assumption) (vp_in_nI (by omega) (by decide)) ?_
        refine fs_iadd (pc2 := 122) rfl rfl rfl ?_
        first | simp (disch := omega) only [nI_lit, pk_mul, nI_add, pk_sub, pk_rem4, nI_clamp, up2_o, up2_s, up2_i, cpV_o, cpV_i, shR_o, shR_n, s22, hf23b] | simp (disch := omega) only [nI_lit, pk_mul, nI_add, pk_sub, pk_rem4, nI_clamp, up2_o, up2_s, up2_i, cpV_o, cpV_i] | skip
        refine fs_icmp_ge (pc2 := 125) rfl rfl rfl (fun h122 => ?_) (fun h122 => ?_)
        · have := c_nlt (a := 4 * c + i) (b := 4 * c + xs.length) h122 rfl rfl
          omega
        · refine fs_aload_n (pc2 := 126) rfl rfl rfl rfl ?_
          refine fs_getr (pc2 := 129) rfl rfl rfl (by assumption) rfl ?_
          refine fs_iload (pc2 := 131) rfl rfl rfl rfl ?_
          refine fs_aload_n (pc2 := 132) rfl rfl rfl rfl ?_
          refine fs_getr (pc2 := 135) rfl rfl rfl (by assumption) rfl ?_
          refine fs_iload (pc2 := 137) rfl rfl rfl rfl ?_
          refine fs_iconst (pc2 := 138) rfl rfl rfl ?_
          refine fs_iadd (pc2 := 139) rfl rfl rfl ?_
          first | simp (disch := omega) only [nI_lit, pk_mul, nI_add, pk_sub, pk_rem4, nI_clamp, up2_o, up2_s, up2_i, cpV_o, cpV_i, shR_o, shR_n, s22, hf23b] | simp (disch := omega) only [nI_lit, pk_mul, nI_add, pk_sub, pk_rem4, nI_clamp, up2_o, up2_s, up2_i, cpV_o, cpV_i] | skip
          refine fs_iald (pc2 := 140) rfl rfl rfl (by assumption) (vp_in_nI (by omega) (by decide)) ?_
          first | simp (disch := omega) only [nI_lit, pk_mul, nI_add, pk_sub, pk_rem4, nI_clamp, up2_o, up2_s, up2_i, cpV_o, cpV_i, shR_o, shR_n, s22, hf23b] | simp (disch := omega) only [nI_lit, pk_mul, nI_add, pk_sub, pk_rem4, nI_clamp, up2_o, up2_s, up2_i, cpV_o, cpV_i] | skip
          refine fs_iast (pc2 := 141) rfl rfl rfl (by assumption) (vp_in_nI (by omega) (by decide)) ?_
          refine fs_iconst (pc2 := 142) rfl rfl rfl ?_
          refine fs_istore (pc2 := 144) rfl rfl rfl (Nat.le_of_ble_eq_true rfl) ?_
          try simp (disch := omega) only [nI_lit, pk_mul, nI_add, pk_sub, pk_rem4, nI_clamp, up2_o, up2_s, up2_i, cpV_o, cpV_i, shR_o, shR_n, hf23b]
          have l0 := inner i (by omega) (up2 (shR V3 mb (4 * c) i) (mb + 23) (4 * c + i) f23) ?_ ?_ 128 0 (by omega)
          · rw [cpV_0] at l0
            exact l0
          · intro V4 hV4
            rw [hV4, shR_1 hf23 (fun j => rfl)]
            exact ih (i + 1) [(6, .int (nI 128))] (by omega) (Or.inr ⟨_, rfl⟩)
          · intro j hj
            rw [up2_o (by omega), shR_m (by omega)]
  have loop : ∀ j i, i + j = x.length → fl_R cy z0 (ev_M cy ext (d + 3)) 7 0 0 7 (some .int) kc_X7_receive Ret 61 [(0, .ref (z0 + mb)), (1, .int (nI h)), (2, .int (nI (64 + k))), (3, .int (nI c)), (4, .int (nI (4 * c))), (5, .int (nI i))] [] sh (cpV V1 (mb + 1) 0 i (fun j => V (mb + 24) (128 * (4 * c) + j))) n 0 0 := by
    intro j
    induction j with
    | zero =>
      intro i hi
      have hi2 : i = x.length := by omega
      subst hi2
      rw [← hV2]
      have t22 : V2 (mb + 22) c = nI (xs.length + 1) := by rw [hV2, cpV_o (by omega), r1 _ (by omega)]; exact e22
      have t2 : V2 mb 2 = nI x.length := by rw [hV2, cpV_o (by omega)]; exact s1
      refine fs_iload (pc2 := 63) rfl rfl rfl rfl ?_
      refine fs_aload_n (pc2 := 64) rfl rfl rfl rfl ?_
      refine fs_geti (pc2 := 67) rfl rfl rfl (by assumption) rfl ?_
      try simp (disch := omega) only [nI_lit, pk_mul, nI_add, pk_sub, pk_rem4, nI_clamp, up2_o, up2_s, up2_i, cpV_o, cpV_i, t22, t2]
      refine fs_icmp_ge (pc2 := 70) rfl rfl rfl (fun h67 => ?_) (fun h67 => ?_)
      · refine fs_aload_n (pc2 := 98) rfl rfl rfl rfl ?_
        refine fs_getr (pc2 := 101) rfl rfl rfl (by assumption) rfl ?_
        refine fs_iload_n (pc2 := 102) rfl rfl rfl rfl ?_
        refine fs_dup2 (pc2 := 103) rfl rfl rfl ?_
        try simp (disch := omega) only [nI_lit, pk_mul, nI_add, pk_sub, pk_rem4, nI_clamp, up2_o, up2_s, up2_i, cpV_o, cpV_i, t22, t2]
        refine fs_iald (pc2 := 104) rfl rfl rfl (by assumption) (vp_in_nI (by omega) (by decide)) ?_
        refine fs_iconst (pc2 := 105) rfl rfl rfl ?_
        refine fs_isub (pc2 := 106) rfl rfl rfl ?_
        try simp (disch := omega) only [nI_lit, pk_mul, nI_add, pk_sub, pk_rem4, nI_clamp, up2_o, up2_s, up2_i, cpV_o, cpV_i, t22, t2]
        refine fs_iast (pc2 := 107) rfl rfl rfl (by assumption) (vp_in_nI (by omega) (by decide)) ?_
        refine fs_iload (pc2 := 109) rfl rfl rfl rfl ?_
        refine fs_istore (pc2 := 111) rfl rfl rfl (Nat.le_of_ble_eq_true rfl) ?_
        try simp (disch := omega) only [nI_lit, pk_mul, nI_add, pk_sub, pk_rem4, nI_clamp, up2_o, up2_s, up2_i, cpV_o, cpV_i, t22]
        have l0 := outer xs.length 0 [] (by omega) (Or.inl rfl)
        rw [shR_0, hV3] at l0
        exact l0
      · have := c_lt (a := x.length) (b := x.length) h67 rfl rfl
        omega
    | succ j ih =>
      intro i hi
      have q24 : V1 (mb + 24) (128 * (4 * c) + i) = V (mb + 24) (128 * (4 * c) + i) := by rw [r1 _ (by omega)]
      refine fs_iload (pc2 := 63) rfl rfl rfl rfl ?_
      refine fs_aload_n (pc2 := 64) rfl rfl rfl rfl ?_
      refine fs_geti (pc2 := 67) rfl rfl rfl (by assumption) rfl ?_
      try simp (disch := omega) only [nI_lit, pk_mul, nI_add, pk_sub, pk_rem4, nI_clamp, up2_o, up2_s, up2_i, cpV_o, cpV_i, s1, q24]
      refine fs_icmp_ge (pc2 := 70) rfl rfl rfl (fun h67 => ?_) (fun h67 => ?_)
      · have := c_nlt (a := i) (b := x.length) h67 rfl rfl
        omega
      · refine fs_aload_n (pc2 := 71) rfl rfl rfl rfl ?_
        refine fs_getr (pc2 := 74) rfl rfl rfl (by assumption) rfl ?_
        refine fs_iload (pc2 := 76) rfl rfl rfl rfl ?_
        refine fs_aload_n (pc2 := 77) rfl rfl rfl rfl ?_
        refine fs_getr (pc2 := 80) rfl rfl rfl (by assumption) rfl ?_
        refine fs_sipush (pc2 := 83) rfl rfl rfl ?_
        refine fs_iload (pc2 := 85) rfl rfl rfl rfl ?_
        refine fs_imul (pc2 := 86) rfl rfl rfl ?_
        refine fs_iload (pc2 := 88) rfl rfl rfl rfl ?_
        refine fs_iadd (pc2 := 89) rfl rfl rfl ?_
        try simp (disch := omega) only [nI_lit, pk_mul, nI_add, pk_sub, pk_rem4, nI_clamp, up2_o, up2_s, up2_i, cpV_o, cpV_i, s1, q24]
        refine fs_iald (pc2 := 90) rfl rfl rfl (by assumption) (vp_in_nI (by omega) (by decide)) ?_
        try simp (disch := omega) only [nI_lit, pk_mul, nI_add, pk_sub, pk_rem4, nI_clamp, up2_o, up2_s, up2_i, cpV_o, cpV_i, s1, q24]
        refine fs_iast (pc2 := 91) rfl rfl rfl (by assumption) (vp_in_nI (by omega) (by decide)) ?_
        refine fs_iinc (pc2 := 94) rfl rfl rfl (Nat.le_of_ble_eq_true rfl) rfl ?_
        refine fs_goto rfl rfl ?_
        try simp (disch := omega) only [nI_lit, pk_mul, nI_add, pk_sub, pk_rem4, nI_clamp, up2_o, up2_s, up2_i, cpV_o, cpV_i, q24]
        rw [cpV_10 rfl]
        exact ih (i + 1) (by omega)
  refine fs_aload_n (pc2 := 1) rfl rfl rfl rfl ?_
  refine fs_iload_n (pc2 := 2) rfl rfl rfl rfl ?_
  refine fs_iload_n (pc2 := 3) rfl rfl rfl rfl ?_
  try simp (disch := omega) only [nI_lit, pk_mul, nI_add, pk_sub, pk_rem4, nI_clamp, up2_o, up2_s, up2_i, cpV_o, cpV_i, ek, e22, e23]
  refine fs_calls (pc2 := 6) rfl rfl rfl rfl rfl rfl ⟨rfl, rfl⟩ (Nat.le_of_ble_eq_true rfl) (Nat.le_of_ble_eq_true rfl) (Nat.le_of_ble_eq_true rfl) (m_isChannel (u := nI h) (w := nI (64 + k))) (fun v9 sh9 V9 n9 hp9 => ?_)
  obtain ⟨ea9, eb9, ec9, hv9⟩ := hp9
  cases ea9
  obtain rfl := eb9.symm
  obtain rfl := ec9.symm
  cases hv9
  rw [isChM_nI hh hk]
  try simp (disch := omega) only [nI_lit, pk_mul, nI_add, pk_sub, pk_rem4, nI_clamp, up2_o, up2_s, up2_i, cpV_o, cpV_i, ek, e22, e23]
  refine fs_if_eq (pc2 := 9) rfl rfl rfl (fun h6 => ?_) (fun h6 => ?_)
  · first | exact absurd h6 (by decide) | exact absurd (by decide) h6
  · refine fs_iconst (pc2 := 10) rfl rfl rfl ?_
    refine fs_goto rfl rfl ?_
    try simp (disch := omega) only [nI_lit, pk_mul, nI_add, pk_sub, pk_rem4, nI_clamp, up2_o, up2_s, up2_i, cpV_o, cpV_i, ek, e22, e23]
    refine fs_callv (pc2 := 17) rfl rfl rfl rfl ⟨rfl, rfl⟩ (Nat.le_of_ble_eq_true rfl) (Nat.le_of_ble_eq_true rfl) (Nat.le_of_ble_eq_true rfl) (fs_rcv rfl (by assumption)) (m_refusedE hm (w := nI 0)) (fun v9 sh9 V9 n9 hp9 => ?_)
    obtain ⟨ea9, eb9, ec9, hv9⟩ := hp9
    cases ea9
    obtain rfl := eb9.symm
    obtain rfl := ec9.symm
    cases hv9
    rw [rf0]
    try simp (disch := omega) only [nI_lit, pk_mul, nI_add, pk_sub, pk_rem4, nI_clamp, up2_o, up2_s, up2_i, cpV_o, cpV_i, ek, e22, e23]
    refine fs_if_eq (pc2 := 20) rfl rfl rfl (fun h17 => ?_) (fun h17 => ?_)
    · refine fs_iconst (pc2 := 23) rfl rfl rfl ?_
      refine fs_iload_n (pc2 := 24) rfl rfl rfl rfl ?_
      refine fs_imul (pc2 := 25) rfl rfl rfl ?_
      refine fs_iload_n (pc2 := 26) rfl rfl rfl rfl ?_
      refine fs_iadd (pc2 := 27) rfl rfl rfl ?_
      refine fs_bipush (pc2 := 29) rfl rfl rfl ?_
      refine fs_isub (pc2 := 30) rfl rfl rfl ?_
      refine fs_istore_n (pc2 := 31) rfl rfl rfl (Nat.le_of_ble_eq_true rfl) ?_
      refine fs_aload_n (pc2 := 32) rfl rfl rfl rfl ?_
      refine fs_getr (pc2 := 35) rfl rfl rfl (by assumption) rfl ?_
      refine fs_iload_n (pc2 := 36) rfl rfl rfl rfl ?_
      try simp (disch := omega) only [nI_lit, pk_mul, nI_add, pk_sub, pk_rem4, nI_clamp, up2_o, up2_s, up2_i, cpV_o, cpV_i, ek, e22, e23]
      refine fs_iald (pc2 := 37) rfl rfl rfl (by assumption) (vp_in_nI (by omega) (by decide)) ?_
      try simp (disch := omega) only [nI_lit, pk_mul, nI_add, pk_sub, pk_rem4, nI_clamp, up2_o, up2_s, up2_i, cpV_o, cpV_i, ek, e22, e23]
      refine fs_if_ne (pc2 := 40) rfl rfl rfl (fun h37 => ?_) (fun h37 => ?_)
      · refine fs_iconst (pc2 := 43) rfl rfl rfl ?_
        refine fs_iload_n (pc2 := 44) rfl rfl rfl rfl ?_
        refine fs_imul (pc2 := 45) rfl rfl rfl ?_
        refine fs_istore (pc2 := 47) rfl rfl rfl (Nat.le_of_ble_eq_true rfl) ?_
        refine fs_aload_n (pc2 := 48) rfl rfl rfl rfl ?_
        refine fs_aload_n (pc2 := 49) rfl rfl rfl rfl ?_
        refine fs_getr (pc2 := 52) rfl rfl rfl (by assumption) rfl ?_
        refine fs_iload (pc2 := 54) rfl rfl rfl rfl ?_
        try simp (disch := omega) only [nI_lit, pk_mul, nI_add, pk_sub, pk_rem4, nI_clamp, up2_o, up2_s, up2_i, cpV_o, cpV_i, ek, e22, e23]
        refine fs_iald (pc2 := 55) rfl rfl rfl (by assumption) (vp_in_nI (by omega) (by decide)) ?_
        refine fs_puti (pc2 := 58) rfl rfl rfl (by assumption) rfl True.intro ?_
        refine fs_iconst (pc2 := 59) rfl rfl rfl ?_
        refine fs_istore (pc2 := 61) rfl rfl rfl (Nat.le_of_ble_eq_true rfl) ?_
        try simp (disch := omega) only [nI_lit, pk_mul, nI_add, pk_sub, pk_rem4, nI_clamp, up2_o, up2_s, up2_i, cpV_o, cpV_i, e23]
        rw [← hV1]
        have l0 := loop x.length 0 (by omega)
        rw [cpV_0] at l0
        exact l0
      · have := c_eq (b := 0) h37 rfl rfl
        omega
    · first | exact absurd h17 (by decide) | exact absurd (by decide) h17
end MRECV
