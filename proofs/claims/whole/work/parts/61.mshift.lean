/-- i packets of a way have moved one place down -/
def shP (V : fl_V) (mb p i : Nat) : fl_V := fun a j => if (a = mb + 35 ∨ a = mb + 36 ∨ a = mb + 37) ∧ p ≤ j ∧ j < p + i then V a (j + 1) else if a = mb + 38 ∧ 27 * p ≤ j ∧ j < 27 * (p + i) then V a (j + 27) else V a j
section SHP
variable {V : fl_V} {mb p i : Nat}
theorem shP_0 : shP V mb p 0 = V := by
  funext a j
  unfold shP
  rw [if_neg (by omega), if_neg (by omega)]
theorem shP_o {a : Nat} (h : a ≠ mb + 35 ∧ a ≠ mb + 36 ∧ a ≠ mb + 37 ∧ a ≠ mb + 38) : shP V mb p i a = V a := by
  funext j
  unfold shP
  rw [if_neg (by omega), if_neg (by omega)]
theorem shP_n {a j : Nat} (h : a ≠ mb + 38 ∧ p + i ≤ j) : shP V mb p i a j = V a j := by
  unfold shP
  rw [if_neg (by omega), if_neg (by omega)]
theorem shP_m {j : Nat} (h : 27 * (p + i) ≤ j) : shP V mb p i (mb + 38) j = V (mb + 38) j := by
  unfold shP
  rw [if_neg (by omega), if_neg (by omega)]
theorem shP_s {a j : Nat} (h : (a = mb + 35 ∨ a = mb + 36 ∨ a = mb + 37) ∧ p ≤ j ∧ j < p + i) : shP V mb p i a j = V a (j + 1) := by
  unfold shP
  rw [if_pos h]
theorem shP_b {j : Nat} (h : 27 * p ≤ j ∧ j < 27 * (p + i)) : shP V mb p i (mb + 38) j = V (mb + 38) (j + 27) := by
  unfold shP
  rw [if_neg (by omega), if_pos ⟨rfl, h⟩]
theorem shP_1 {v35 v36 v37 : Int32} {f : Nat → Int32} (h35 : v35 = V (mb + 35) (p + i + 1)) (h36 : v36 = V (mb + 36) (p + i + 1)) (h37 : v37 = V (mb + 37) (p + i + 1)) (hf : ∀ j, f j = V (mb + 38) (27 * (p + i) + 27 + j)) : cpV (up2 (up2 (up2 (shP V mb p i) (mb + 35) (p + i) v35) (mb + 36) (p + i) v36) (mb + 37) (p + i) v37) (mb + 38) (27 * (p + i)) 27 f = shP V mb p (i + 1) := by
  funext a j
  by_cases a38 : a = mb + 38
  · subst a38
    by_cases q : 27 * (p + i) ≤ j ∧ j < 27 * (p + i) + 27
    · rw [cpV_s q, hf, shP_b (by omega)]; congr 1; omega
    · rw [cpV_i (by omega), up2_o (by omega), up2_o (by omega), up2_o (by omega)]
      by_cases q2 : 27 * p ≤ j ∧ j < 27 * (p + i)
      · rw [shP_b q2, shP_b (by omega)]
      · unfold shP
        rw [if_neg (by omega), if_neg (by omega), if_neg (by omega), if_neg (by omega)]
  · rw [cpV_o a38]
    by_cases z : (a = mb + 35 ∨ a = mb + 36 ∨ a = mb + 37) ∧ p ≤ j ∧ j < p + (i + 1)
    · rw [shP_s z]
      by_cases q : j = p + i
      · subst q
        rcases z.1 with rfl | rfl | rfl
        · rw [up2_o (by omega), up2_o (by omega), up2_s, h35]
        · rw [up2_o (by omega), up2_s, h36]
        · rw [up2_s, h37]
      · rcases z.1 with rfl | rfl | rfl
        · rw [up2_o (by omega), up2_o (by omega), up2_i q, shP_s (by omega)]
        · rw [up2_o (by omega), up2_i q, up2_o (by omega), shP_s (by omega)]
        · rw [up2_i q, up2_o (by omega), up2_o (by omega), shP_s (by omega)]
    · have e : shP V mb p (i + 1) a j = V a j := by
        unfold shP
        rw [if_neg z, if_neg (by omega)]
      have e2 : shP V mb p i a j = V a j := by
        unfold shP
        rw [if_neg (by omega), if_neg (by omega)]
      rw [e]
      by_cases q5 : a = mb + 35
      · subst q5; rw [up2_o (by omega), up2_o (by omega), up2_i (by omega), e2]
      · by_cases q6 : a = mb + 36
        · subst q6; rw [up2_o (by omega), up2_i (by omega), up2_o (by omega), e2]
        · by_cases q7 : a = mb + 37
          · subst q7; rw [up2_i (by omega), up2_o (by omega), up2_o (by omega), e2]
          · rw [up2_o q7, up2_o q6, up2_o q5, e2]
theorem FM_shP {V0 : fl_V} {h : Nat} (hF : FM mb (12 + h) V0 V) (hp : p = 32 * h) (hi : i ≤ 31) : FM mb (12 + h) V0 (shP V mb p i) := by
  intro j x q
  rw [← hF j x q]
  show (if _ then _ else if _ then _ else _) = _
  split
  · next e =>
    exfalso; apply q
    rcases e.1 with e1 | e1 | e1
    · rw [show j = 35 by omega]; simp [own] <;> omega
    · rw [show j = 36 by omega]; simp [own] <;> omega
    · rw [show j = 37 by omega]; simp [own] <;> omega
  · split
    · next e =>
      exfalso; apply q
      rw [show j = 38 by omega]; simp [own] <;> omega
    · rfl
theorem KO_shP {V0 : fl_V} (h : KO mb V0 V) : KO mb V0 (shP V mb p i) := ⟨by rw [shP_o (by omega)]; exact h.1, fun a ha => by rw [shP_o (by omega)]; exact h.2 a ha⟩
end SHP
section MSHIFT
variable {cy : Nat → ClassId} {z0 : Nat} {ext : Nat → Nat → List Value → ev_H → Nat → ev_P → Prop} {d : Nat} {sh : fl_S} {V : fl_V} {n mb : Nat} {T : Nat → Nat} {S : List Nat} {HH : Nat → Ho} {H : Ho} {h k : Nat}
set_option maxRecDepth 100000 in
set_option maxHeartbeats 4000000 in
theorem m_shift (hm : isMo sh mb) (hM : Mo V mb T S (va_up HH h H)) (hh : h < 2) {y : Pkt} {ps : List Pkt} (hw : H.2.2.2.1 = y :: ps) : fl_M cy z0 ext (d + 1) m_X7_shift [.ref (z0 + mb), .int (nI h)] sh V n (fun v sh' V' n' => v = some (.int (nI y.2.2.length)) ∧ sh' = sh ∧ n' = n ∧ Mo V' mb T S (va_up HH h (hoW H ps)) ∧ (∀ j, j < y.2.2.length → V' (mb + 44) j = nI (y.2.2.getD j 0) ∧ y.2.2.getD j 0 < 256) ∧ KO mb V V') := by
  have m0 := hm.1
  have a34 : sh (mb + 34) = some (.inl (1, 2, none)) := hm.2 33 (1, 2) rfl
  have a35 : sh (mb + 35) = some (.inl (1, 64, none)) := hm.2 34 (1, 64) rfl
  have a36 : sh (mb + 36) = some (.inl (2, 64, none)) := hm.2 35 (2, 64) rfl
  have a37 : sh (mb + 37) = some (.inl (2, 64, none)) := hm.2 36 (2, 64) rfl
  have a38 : sh (mb + 38) = some (.inl (1, 1728, none)) := hm.2 37 (1, 1728) rfl
  have a44 : sh (mb + 44) = some (.inl (1, 32, none)) := hm.2 43 (1, 32) rfl
  have hW := (hM.host hh).2.2.1
  rw [hw] at hW
  obtain ⟨e34, lW, pW⟩ := id hW
  simp only [List.length_cons] at e34 lW
  obtain ⟨e35, y1, y2, y3, hy⟩ := pW 0 y rfl
  simp only [Nat.add_zero] at e35 y1 y2 hy
  obtain ⟨p, hp⟩ : ∃ p, p = 32 * h := ⟨_, rfl⟩
  rw [← hp] at e35 hy
  obtain ⟨V1, hV1⟩ : ∃ V1, V1 = up2 (cpV V (mb + 44) 0 y.2.2.length (fun j => V (mb + 38) (27 * p + j))) (mb + 34) h (nI ps.length) := ⟨_, rfl⟩
  have r34 : V1 (mb + 34) h = nI ps.length := by rw [hV1, up2_s]
  have rO : ∀ a, a ≠ mb + 34 → a ≠ mb + 44 → V1 a = V a := fun a q1 q2 => by rw [hV1, up2_o q1, cpV_o q2]
  have bn : ∀ b, ev_bn 7 (bI b) = bI b := fun b => by cases b <;> rfl
  refine fs_body rfl rfl (fun Ret hP => ?_)
  have inner : ∀ i, i < ps.length → ∀ (W : fl_V), (∀ (V3 : fl_V), V3 = cpV W (mb + 38) (27 * (p + i)) 27 (fun j => V1 (mb + 38) (27 * (p + i) + 27 + j)) → fl_R cy z0 (ev_M cy ext d) 7 0 0 6 (some .int) kc_X7_shift Ret 59 [(0, .ref (z0 + mb)), (1, .int (nI h)), (2, .int (nI p)), (3, .int (nI y.2.2.length)), (4, .int (nI (p + i + 1))), (5, .int (nI 27))] [] sh V3 n 0 0) → (∀ j, 27 * (p + i) + 27 ≤ j → W (mb + 38) j = V1 (mb + 38) j) → ∀ j i2, i2 + j = 27 → fl_R cy z0 (ev_M cy ext d) 7 0 0 6 (some .int) kc_X7_shift Ret 123 [(0, .ref (z0 + mb)), (1, .int (nI h)), (2, .int (nI p)), (3, .int (nI y.2.2.length)), (4, .int (nI (p + i))), (5, .int (nI i2))] [] sh (cpV W (mb + 38) (27 * (p + i)) i2 (fun j => V1 (mb + 38) (27 * (p + i) + 27 + j))) n 0 0 := by
    intro i hi W hnext hr j
    induction j with
    | zero =>
      intro i2 h2
      have hi2 : i2 = 27 := by omega
      subst hi2
      refine fs_iload (pc2 := 125) rfl rfl rfl rfl ?_
      refine fs_bipush (pc2 := 127) rfl rfl rfl ?_
      try simp (disch := omega) only [nI_lit, pk_mul, nI_add, pk_sub, pk_rem4, nI_clamp, up2_o, up2_s, up2_i, cpV_o, cpV_i]
      refine fs_icmp_ge (pc2 := 130) rfl rfl rfl (fun h127 => ?_) (fun h127 => ?_)
      · refine fs_iinc (pc2 := 168) rfl rfl rfl (Nat.le_of_ble_eq_true rfl) rfl ?_
        refine fs_goto rfl rfl ?_
        try simp (disch := omega) only [nI_lit, pk_mul, nI_add, pk_sub, pk_rem4, nI_clamp, up2_o, up2_s, up2_i, cpV_o, cpV_i]
        exact hnext _ rfl
      · exact absurd h127 (by decide)
    | succ j ih =>
      intro i2 h2
      have hr2 := hr (27 * (p + i) + 27 + i2) (by omega)
      refine fs_iload (pc2 := 125) rfl rfl rfl rfl ?_
      refine fs_bipush (pc2 := 127) rfl rfl rfl ?_
      try simp (disch := omega) only [nI_lit, pk_mul, nI_add, pk_sub, pk_rem4, nI_clamp, up2_o, up2_s, up2_i, cpV_o, cpV_i, hr2]
      refine fs_icmp_ge (pc2 := 130) rfl rfl rfl (fun h127 => ?_) (fun h127 => ?_)
      · exact absurd (nI_lt (a := i2) (b := 27) (by omega) (by decide)) h127
      · refine fs_aload_n (pc2 := 131) rfl rfl rfl rfl ?_
        refine fs_getr (pc2 := 134) rfl rfl rfl (by assumption) rfl ?_
        refine fs_bipush (pc2 := 136) rfl rfl rfl ?_
        refine fs_iload (pc2 := 138) rfl rfl rfl rfl ?_
        refine fs_imul (pc2 := 139) rfl rfl rfl ?_
        refine fs_iload (pc2 := 141) rfl rfl rfl rfl ?_
        refine fs_iadd (pc2 := 142) rfl rfl rfl ?_
        refine fs_aload_n (pc2 := 143) rfl rfl rfl rfl ?_
        refine fs_getr (pc2 := 146) rfl rfl rfl (by assumption) rfl ?_
        refine fs_bipush (pc2 := 148) rfl rfl rfl ?_
        refine fs_iload (pc2 := 150) rfl rfl rfl rfl ?_
        refine fs_imul (pc2 := 151) rfl rfl rfl ?_
        refine fs_bipush (pc2 := 153) rfl rfl rfl ?_
        refine fs_iadd (pc2 := 154) rfl rfl rfl ?_
        refine fs_iload (pc2 := 156) rfl rfl rfl rfl ?_
        refine fs_iadd (pc2 := 157) rfl rfl rfl ?_
        try simp (disch := omega) only [nI_lit, pk_mul, nI_add, pk_sub, pk_rem4, nI_clamp, up2_o, up2_s, up2_i, cpV_o, cpV_i, hr2]
        refine fs_iald (pc2 := 158) rfl rfl rfl (by assumption) (vp_in_nI (by omega) (by decide)) ?_
        try simp (disch := omega) only [nI_lit, pk_mul, nI_add, pk_sub, pk_rem4, nI_clamp, up2_o, up2_s, up2_i, cpV_o, cpV_i, hr2]
        refine fs_iast (pc2 := 159) rfl rfl rfl (by assumption) (vp_in_nI (by omega) (by decide)) ?_
        refine fs_iinc (pc2 := 162) rfl rfl rfl (Nat.le_of_ble_eq_true rfl) rfl ?_
        refine fs_goto rfl rfl ?_
        try simp (disch := omega) only [nI_lit, pk_mul, nI_add, pk_sub, pk_rem4, nI_clamp, up2_o, up2_s, up2_i, cpV_o, cpV_i, hr2]
        rw [cpV_1 rfl]
        exact ih (i2 + 1) (by omega)
  have outer : ∀ j i (T5 : List (Nat × Value)), i + j = ps.length → (T5 = [] ∨ ∃ q, T5 = [(5, .int q)]) → fl_R cy z0 (ev_M cy ext d) 7 0 0 6 (some .int) kc_X7_shift Ret 59 ([(0, .ref (z0 + mb)), (1, .int (nI h)), (2, .int (nI p)), (3, .int (nI y.2.2.length)), (4, .int (nI (p + i)))] ++ T5) [] sh (shP V1 mb p i) n 0 0 := by
    intro j
    induction j with
    | zero =>
      intro i T5 hi hT5
      have hi2 : i = ps.length := by omega
      subst hi2
      rcases hT5 with rfl | ⟨q5, rfl⟩
      · refine fs_iload (pc2 := 61) rfl rfl rfl rfl ?_
        refine fs_iload_n (pc2 := 62) rfl rfl rfl rfl ?_
        refine fs_aload_n (pc2 := 63) rfl rfl rfl rfl ?_
        refine fs_getr (pc2 := 66) rfl rfl rfl (by assumption) rfl ?_
        refine fs_iload_n (pc2 := 67) rfl rfl rfl rfl ?_
        first | simp (disch := omega) only [nI_lit, pk_mul, nI_add, pk_sub, pk_rem4, nI_clamp, up2_o, up2_s, up2_i, cpV_o, cpV_i, shP_o, r34] | simp (disch := omega) only [nI_lit, pk_mul, nI_add, pk_sub, pk_rem4, nI_clamp, up2_o, up2_s, up2_i, cpV_o, cpV_i] | skip
        refine fs_iald (pc2 := 68) rfl rfl rfl (by assumption) (vp_in_nI (by omega) (by decide)) ?_
        refine fs_iadd (pc2 := 69) rfl rfl rfl ?_
        first | simp (disch := omega) only [nI_lit, pk_mul, nI_add, pk_sub, pk_rem4, nI_clamp, up2_o, up2_s, up2_i, cpV_o, cpV_i, shP_o, r34] | simp (disch := omega) only [nI_lit, pk_mul, nI_add, pk_sub, pk_rem4, nI_clamp, up2_o, up2_s, up2_i, cpV_o, cpV_i] | skip
        refine fs_icmp_ge (pc2 := 72) rfl rfl rfl (fun h69 => ?_) (fun h69 => ?_)
        · refine fs_iload_n (pc2 := 172) rfl rfl rfl rfl ?_
          first | simp (disch := omega) only [nI_lit, pk_mul, nI_add, pk_sub, pk_rem4, nI_clamp, up2_o, up2_s, up2_i, cpV_o, cpV_i, shP_o, r34] | simp (disch := omega) only [nI_lit, pk_mul, nI_add, pk_sub, pk_rem4, nI_clamp, up2_o, up2_s, up2_i, cpV_o, cpV_i] | skip
          refine fs_iret rfl rfl True.intro ?_
          have hM1 := hM.tmp (FM.refl.cp (j := 44) (b := 0) (i := y.2.2.length) (f := fun j => V (mb + 38) (27 * p + j)) (fun x a1 a2 => by simp [own]))
          have hM2 := hM1.pW (W := ps) (V' := shP V1 mb p ps.length) hh (FM_shP (by rw [hV1]; exact FM.refl.up (j := 34) (by simp [own])) hp (by omega)) ⟨?_, by omega, fun q z hq => ?_⟩
          · refine hP _ _ _ _ ⟨rfl, rfl, rfl, hM2, fun j hj => ?_, KO_shP (by rw [hV1]; exact (KO.refl.cp (by decide)).up (by decide))⟩
            rw [shP_o (by omega), hV1, up2_o (by omega), cpV_s (by omega), Nat.sub_zero]
            exact hy.at hj
          · rw [shP_o (by omega)]; exact r34
          · have lq := (List.getElem?_eq_some_iff.mp hq).1
            obtain ⟨a1, a2, a3, a4, a5⟩ := pW (q + 1) z (by simpa using hq)
            rw [← hp] at a1 a2 a3 a5
            rw [← hp, shP_s (by omega), shP_s (by omega), shP_s (by omega), rO _ (by omega) (by omega), rO _ (by omega) (by omega), rO _ (by omega) (by omega)]
            refine ⟨a1, a2, a3, a4, fun j b hj => ?_⟩
            have lj := (List.getElem?_eq_some_iff.mp hj).1
            rw [shP_b (by omega), rO _ (by omega) (by omega), show 27 * (p + q) + j + 27 = 27 * (p + (q + 1)) + j by omega]
            exact a5 j b hj
        · have := c_lt (a := p + ps.length) (b := p + ps.length) h69 rfl rfl
          omega
      · refine fs_iload (pc2 := 61) rfl rfl rfl rfl ?_
        refine fs_iload_n (pc2 := 62) rfl rfl rfl rfl ?_
        refine fs_aload_n (pc2 := 63) rfl rfl rfl rfl ?_
        refine fs_getr (pc2 := 66) rfl rfl rfl (by assumption) rfl ?_
        refine fs_iload_n (pc2 := 67) rfl rfl rfl rfl ?_
        first | simp (disch := omega) only [nI_lit, pk_mul, nI_add, pk_sub, pk_rem4, nI_clamp, up2_o, up2_s, up2_i, cpV_o, cpV_i, shP_o, r34] | simp (disch := omega) only [nI_lit, pk_mul, nI_add, pk_sub, pk_rem4, nI_clamp, up2_o, up2_s, up2_i, cpV_o, cpV_i] | skip
        refine fs_iald (pc2 := 68) rfl rfl rfl (by assumption) (vp_in_nI (by omega) (by decide)) ?_
        refine fs_iadd (pc2 := 69) rfl rfl rfl ?_
        first | simp (disch := omega) only [nI_lit, pk_mul, nI_add, pk_sub, pk_rem4, nI_clamp, up2_o, up2_s, up2_i, cpV_o, cpV_i, shP_o, r34] | simp (disch := omega) only [nI_lit, pk_mul, nI_add, pk_sub, pk_rem4, nI_clamp, up2_o, up2_s, up2_i, cpV_o, cpV_i] | skip
        refine fs_icmp_ge (pc2 := 72) rfl rfl rfl (fun h69 => ?_) (fun h69 => ?_)
        · refine fs_iload_n (pc2 := 172) rfl rfl rfl rfl ?_
          first | simp (disch := omega) only [nI_lit, pk_mul, nI_add, pk_sub, pk_rem4, nI_clamp, up2_o, up2_s, up2_i, cpV_o, cpV_i, shP_o, r34] | simp (disch := omega) only [nI_lit, pk_mul, nI_add, pk_sub, pk_rem4, nI_clamp, up2_o, up2_s, up2_i, cpV_o, cpV_i] | skip
          refine fs_iret rfl rfl True.intro ?_
          have hM1 := hM.tmp (FM.refl.cp (j := 44) (b := 0) (i := y.2.2.length) (f := fun j => V (mb + 38) (27 * p + j)) (fun x a1 a2 => by simp [own]))
          have hM2 := hM1.pW (W := ps) (V' := shP V1 mb p ps.length) hh (FM_shP (by rw [hV1]; exact FM.refl.up (j := 34) (by simp [own])) hp (by omega)) ⟨?_, by omega, fun q z hq => ?_⟩
          · refine hP _ _ _ _ ⟨rfl, rfl, rfl, hM2, fun j hj => ?_, KO_shP (by rw [hV1]; exact (KO.refl.cp (by decide)).up (by decide))⟩
            rw [shP_o (by omega), hV1, up2_o (by omega), cpV_s (by omega), Nat.sub_zero]
            exact hy.at hj
          · rw [shP_o (by omega)]; exact r34
          · have lq := (List.getElem?_eq_some_iff.mp hq).1
            obtain ⟨a1, a2, a3, a4, a5⟩ := pW (q + 1) z (by simpa using hq)
            rw [← hp] at a1 a2 a3 a5
            rw [← hp, shP_s (by omega), shP_s (by omega), shP_s (by omega), rO _ (by omega) (by omega), rO _ (by omega) (by omega), rO _ (by omega) (by omega)]
            refine ⟨a1, a2, a3, a4, fun j b hj => ?_⟩
            have lj := (List.getElem?_eq_some_iff.mp hj).1
            rw [shP_b (by omega), rO _ (by omega) (by omega), show 27 * (p + q) + j + 27 = 27 * (p + (q + 1)) + j by omega]
            exact a5 j b hj
        · have := c_lt (a := p + ps.length) (b := p + ps.length) h69 rfl rfl
          omega
    | succ j ih =>
      intro i T5 hi hT5
      obtain ⟨z, hz⟩ : ∃ z, ps[i]? = some z := ⟨_, List.getElem?_eq_getElem (by omega)⟩
      obtain ⟨a1, a2, a3, a4, a5⟩ := pW (i + 1) z (by simpa using hz)
      rw [← hp, ← Nat.add_assoc] at a1 a2 a3
      have f35 : V1 (mb + 35) (p + i + 1) = nI z.2.2.length := by rw [rO _ (by omega) (by omega)]; exact a1
      have f36 : V1 (mb + 36) (p + i + 1) = bI z.1 := by rw [rO _ (by omega) (by omega)]; exact a2
      have f37 : V1 (mb + 37) (p + i + 1) = bI z.2.1 := by rw [rO _ (by omega) (by omega)]; exact a3
      rcases hT5 with rfl | ⟨q5, rfl⟩
      · refine fs_iload (pc2 := 61) rfl rfl rfl rfl ?_
        refine fs_iload_n (pc2 := 62) rfl rfl rfl rfl ?_
        refine fs_aload_n (pc2 := 63) rfl rfl rfl rfl ?_
        refine fs_getr (pc2 := 66) rfl rfl rfl (by assumption) rfl ?_
        refine fs_iload_n (pc2 := 67) rfl rfl rfl rfl ?_
        first | simp (disch := omega) only [nI_lit, pk_mul, nI_add, pk_sub, pk_rem4, nI_clamp, up2_o, up2_s, up2_i, cpV_o, cpV_i, shP_o, shP_n, r34, f35, f36, f37, bn] | simp (disch := omega) only [nI_lit, pk_mul, nI_add, pk_sub, pk_rem4, nI_clamp, up2_o, up2_s, up2_i, cpV_o, cpV_i] | skip
        refine fs_iald (pc2 := 68) rfl rfl rfl (by assumption) (vp_in_nI (by omega) (by decide)) ?_
        refine fs_iadd (pc2 := 69) rfl rfl rfl ?_
        first | simp (disch := omega) only [nI_lit, pk_mul, nI_add, pk_sub, pk_rem4, nI_clamp, up2_o, up2_s, up2_i, cpV_o, cpV_i, shP_o, shP_n, r34, f35, f36, f37, bn] | simp (disch := omega) only [nI_lit, pk_mul, nI_add, pk_sub, pk_rem4, nI_clamp, up2_o, up2_s, up2_i, cpV_o, cpV_i] | skip
        refine fs_icmp_ge (pc2 := 72) rfl rfl rfl (fun h69 => ?_) (fun h69 => ?_)
        · have := c_nlt (a := p + i) (b := p + ps.length) h69 rfl rfl
          omega
        · refine fs_aload_n (pc2 := 73) rfl rfl rfl rfl ?_
          refine fs_getr (pc2 := 76) rfl rfl rfl (by assumption) rfl ?_
          refine fs_iload (pc2 := 78) rfl rfl rfl rfl ?_
          refine fs_aload_n (pc2 := 79) rfl rfl rfl rfl ?_
          refine fs_getr (pc2 := 82) rfl rfl rfl (by assumption) rfl ?_
          refine fs_iload (pc2 := 84) rfl rfl rfl rfl ?_
          refine fs_iconst (pc2 := 85) rfl rfl rfl ?_
          refine fs_iadd (pc2 := 86) rfl rfl rfl ?_
          first | simp (disch := omega) only [nI_lit, pk_mul, nI_add, pk_sub, pk_rem4, nI_clamp, up2_o, up2_s, up2_i, cpV_o, cpV_i, shP_o, shP_n, r34, f35, f36, f37, bn] | simp (disch := omega) only [nI_lit, pk_mul, nI_add, pk_sub, pk_rem4, nI_clamp, up2_o, up2_s, up2_i, cpV_o, cpV_i] | skip
          refine fs_iald (pc2 := 87) rfl rfl rfl (by assumption) (vp_in_nI (by omega) (by decide)) ?_
          first | simp (disch := omega) only [nI_lit, pk_mul, nI_add, pk_sub, pk_rem4, nI_clamp, up2_o, up2_s, up2_i, cpV_o, cpV_i, shP_o, shP_n, r34, f35, f36, f37, bn] | simp (disch := omega) only [nI_lit, pk_mul, nI_add, pk_sub, pk_rem4, nI_clamp, up2_o, up2_s, up2_i, cpV_o, cpV_i] | skip
          refine fs_iast (pc2 := 88) rfl rfl rfl (by assumption) (vp_in_nI (by omega) (by decide)) ?_
          refine fs_aload_n (pc2 := 89) rfl rfl rfl rfl ?_
          refine fs_getr (pc2 := 92) rfl rfl rfl (by assumption) rfl ?_
          refine fs_iload (pc2 := 94) rfl rfl rfl rfl ?_
          refine fs_aload_n (pc2 := 95) rfl rfl rfl rfl ?_
          refine fs_getr (pc2 := 98) rfl rfl rfl (by assumption) rfl ?_
          refine fs_iload (pc2 := 100) rfl rfl rfl rfl ?_
          refine fs_iconst (pc2 := 101) rfl rfl rfl ?_
          refine fs_iadd (pc2 := 102) rfl rfl rfl ?_
          first | simp (disch := omega) only [nI_lit, pk_mul, nI_add, pk_sub, pk_rem4, nI_clamp, up2_o, up2_s, up2_i, cpV_o, cpV_i, shP_o, shP_n, r34, f35, f36, f37, bn] | simp (disch := omega) only [nI_lit, pk_mul, nI_add, pk_sub, pk_rem4, nI_clamp, up2_o, up2_s, up2_i, cpV_o, cpV_i] | skip
          refine fs_bald (pc2 := 103) rfl rfl rfl rfl (by assumption) (vp_in_nI (by omega) (by decide)) ?_
          first | simp (disch := omega) only [nI_lit, pk_mul, nI_add, pk_sub, pk_rem4, nI_clamp, up2_o, up2_s, up2_i, cpV_o, cpV_i, shP_o, shP_n, r34, f35, f36, f37, bn] | simp (disch := omega) only [nI_lit, pk_mul, nI_add, pk_sub, pk_rem4, nI_clamp, up2_o, up2_s, up2_i, cpV_o, cpV_i] | skip
          refine fs_bast (pc2 := 104) rfl rfl rfl rfl (by assumption) (vp_in_nI (by omega) (by decide)) ?_
          refine fs_aload_n (pc2 := 105) rfl rfl rfl rfl ?_
          refine fs_getr (pc2 := 108) rfl rfl rfl (by assumption) rfl ?_
          refine fs_iload (pc2 := 110) rfl rfl rfl rfl ?_
          refine fs_aload_n (pc2 := 111) rfl rfl rfl rfl ?_
          refine fs_getr (pc2 := 114) rfl rfl rfl (by assumption) rfl ?_
          refine fs_iload (pc2 := 116) rfl rfl rfl rfl ?_
          refine fs_iconst (pc2 := 117) rfl rfl rfl ?_
          refine fs_iadd (pc2 := 118) rfl rfl rfl ?_
          first | simp (disch := omega) only [nI_lit, pk_mul, nI_add, pk_sub, pk_rem4, nI_clamp, up2_o, up2_s, up2_i, cpV_o, cpV_i, shP_o, shP_n, r34, f35, f36, f37, bn] | simp (disch := omega) only [nI_lit, pk_mul, nI_add, pk_sub, pk_rem4, nI_clamp, up2_o, up2_s, up2_i, cpV_o, cpV_i] | skip
          refine fs_bald (pc2 := 119) rfl rfl rfl rfl (by assumption) (vp_in_nI (by omega) (by decide)) ?_
          first | simp (disch := omega) only [nI_lit, pk_mul, nI_add, pk_sub, pk_rem4, nI_clamp, up2_o, up2_s, up2_i, cpV_o, cpV_i, shP_o, shP_n, r34, f35, f36, f37, bn] | simp (disch := omega) only [nI_lit, pk_mul, nI_add, pk_sub, pk_rem4, nI_clamp, up2_o, up2_s, up2_i, cpV_o, cpV_i] | skip
          refine fs_bast (pc2 := 120) rfl rfl rfl rfl (by assumption) (vp_in_nI (by omega) (by decide)) ?_
          refine fs_iconst (pc2 := 121) rfl rfl rfl ?_
          refine fs_istore (pc2 := 123) rfl rfl rfl (Nat.le_of_ble_eq_true rfl) ?_
          try simp (disch := omega) only [nI_lit, pk_mul, nI_add, pk_sub, pk_rem4, nI_clamp, up2_o, up2_s, up2_i, cpV_o, cpV_i, shP_o, shP_n, f35, f36, f37, bn]
          have l0 := inner i (by omega) (up2 (up2 (up2 (shP V1 mb p i) (mb + 35) (p + i) (nI z.2.2.length)) (mb + 36) (p + i) (bI z.1)) (mb + 37) (p + i) (bI z.2.1)) ?_ ?_ 27 0 (by omega)
          · rw [cpV_0] at l0
            exact l0
          · intro V3 hV3
            rw [hV3, shP_1 f35.symm f36.symm f37.symm (fun j => rfl)]
            exact ih (i + 1) [(5, .int (nI 27))] (by omega) (Or.inr ⟨_, rfl⟩)
          · intro j hj
            rw [up2_o (by omega), up2_o (by omega), up2_o (by omega), shP_m (by omega)]
      · refine fs_iload (pc2 := 61) rfl rfl rfl rfl ?_
        refine fs_iload_n (pc2 := 62) rfl rfl rfl rfl ?_
        refine fs_aload_n (pc2 := 63) rfl rfl rfl rfl ?_
        refine fs_getr (pc2 := 66) rfl rfl rfl (by assumption) rfl ?_
        refine fs_iload_n (pc2 := 67) rfl rfl rfl rfl ?_
        first | simp (disch := omega) only [nI_lit, pk_mul, nI_add, pk_sub, pk_rem4, nI_clamp, up2_o, up2_s, up2_i, cpV_o, cpV_i, shP_o, shP_n, r34, f35, f36, f37, bn] | simp (disch := omega) only [nI_lit, pk_mul, nI_add, pk_sub, pk_rem4, nI_clamp, up2_o, up2_s, up2_i, cpV_o, cpV_i] | skip
        refine fs_iald (pc2 := 68) rfl rfl rfl (by assumption) (vp_in_nI (by omega) (by decide)) ?_
        refine fs_iadd (pc2 := 69) rfl rfl rfl ?_
        first | simp (disch := omega) only [nI_lit, pk_mul, nI_add, pk_sub, pk_rem4, nI_clamp, up2_o, up2_s, up2_i, cpV_o, cpV_i, shP_o, shP_n, r34, f35, f36, f37, bn] | simp (disch := omega) only [nI_lit, pk_mul, nI_add, pk_sub, pk_rem4, nI_clamp, up2_o, up2_s, up2_i, cpV_o, cpV_i] | skip
        refine fs_icmp_ge (pc2 := 72) rfl rfl rfl (fun h69 => ?_) (fun h69 => ?_)
        · have := c_nlt (a := p + i) (b := p + ps.length) h69 rfl rfl
          omega
        · refine fs_aload_n (pc2 := 73) rfl rfl rfl rfl ?_
          refine fs_getr (pc2 := 76) rfl rfl rfl (by assumption) rfl ?_
          refine fs_iload (pc2 := 78) rfl rfl rfl rfl ?_
          refine fs_aload_n (pc2 := 79) rfl rfl rfl rfl ?_
          refine fs_getr (pc2 := 82) rfl rfl rfl (by assumption) rfl ?_
          refine fs_iload (pc2 := 84) rfl rfl rfl rfl ?_
          refine fs_iconst (pc2 := 85) rfl rfl rfl ?_
          refine fs_iadd (pc2 := 86) rfl rfl rfl ?_
          first | simp (disch := omega) only [nI_lit, pk_mul, nI_add, pk_sub, pk_rem4, nI_clamp, up2_o, up2_s, up2_i, cpV_o, cpV_i, shP_o, shP_n, r34, f35, f36, f37, bn] | simp (disch := omega) only [nI_lit, pk_mul, nI_add, pk_sub, pk_rem4, nI_clamp, up2_o, up2_s, up2_i, cpV_o, cpV_i] | skip
          refine fs_iald (pc2 := 87) rfl rfl rfl (by assumption) (vp_in_nI (by omega) (by decide)) ?_
          first | simp (disch := omega) only [nI_lit, pk_mul, nI_add, pk_sub, pk_rem4, nI_clamp, up2_o, up2_s, up2_i, cpV_o, cpV_i, shP_o, shP_n, r34, f35, f36, f37, bn] | simp (disch := omega) only [nI_lit, pk_mul, nI_add, pk_sub, pk_rem4, nI_clamp, up2_o, up2_s, up2_i, cpV_o, cpV_i] | skip
          refine fs_iast (pc2 := 88) rfl rfl rfl (by assumption) (vp_in_nI (by omega) (by decide)) ?_
          refine fs_aload_n (pc2 := 89) rfl rfl rfl rfl ?_
          refine fs_getr (pc2 := 92) rfl rfl rfl (by assumption) rfl ?_
          refine fs_iload (pc2 := 94) rfl rfl rfl rfl ?_
          refine fs_aload_n (pc2 := 95) rfl rfl rfl rfl ?_
          refine fs_getr (pc2 := 98) rfl rfl rfl (by assumption) rfl ?_
          refine fs_iload (pc2 := 100) rfl rfl rfl rfl ?_
          refine fs_iconst (pc2 := 101) rfl rfl rfl ?_
          refine fs_iadd (pc2 := 102) rfl rfl rfl ?_
          first | simp (disch := omega) only [nI_lit, pk_mul, nI_add, pk_sub, pk_rem4, nI_clamp, up2_o, up2_s, up2_i, cpV_o, cpV_i, shP_o, shP_n, r34, f35, f36, f37, bn] | simp (disch := omega) only [nI_lit, pk_mul, nI_add, pk_sub, pk_rem4, nI_clamp, up2_o, up2_s, up2_i, cpV_o, cpV_i] | skip
          refine fs_bald (pc2 := 103) rfl rfl rfl rfl (by assumption) (vp_in_nI (by omega) (by decide)) ?_
          first | simp (disch := omega) only [nI_lit, pk_mul, nI_add, pk_sub, pk_rem4, nI_clamp, up2_o, up2_s, up2_i, cpV_o, cpV_i, shP_o, shP_n, r34, f35, f36, f37, bn] | simp (disch := omega) only [nI_lit, pk_mul, nI_add, pk_sub, pk_rem4, nI_clamp, up2_o, up2_s, up2_i, cpV_o, cpV_i] | skip
          refine fs_bast (pc2 := 104) rfl rfl rfl rfl (by assumption) (vp_in_nI (by omega) (by decide)) ?_
          refine fs_aload_n (pc2 := 105) rfl rfl rfl rfl ?_
          refine fs_getr (pc2 := 108) rfl rfl rfl (by assumption) rfl ?_
          refine fs_iload (pc2 := 110) rfl rfl rfl rfl ?_
          refine fs_aload_n (pc2 := 111) rfl rfl rfl rfl ?_
          refine fs_getr (pc2 := 114) rfl rfl rfl (by assumption) rfl ?_
          refine fs_iload (pc2 := 116) rfl rfl rfl rfl ?_
          refine fs_iconst (pc2 := 117) rfl rfl rfl ?_
          refine fs_iadd (pc2 := 118) rfl rfl rfl ?_
          first | simp (disch := omega) only [nI_lit, pk_mul, nI_add, pk_sub, pk_rem4, nI_clamp, up2_o, up2_s, up2_i, cpV_o, cpV_i, shP_o, shP_n, r34, f35, f36, f37, bn] | simp (disch := omega) only [nI_lit, pk_mul, nI_add, pk_sub, pk_rem4, nI_clamp, up2_o, up2_s, up2_i, cpV_o, cpV_i] | skip
          refine fs_bald (pc2 := 119) rfl rfl rfl rfl (by assumption) (vp_in_nI (by omega) (by decide)) ?_
          first | simp (disch := omega) only [nI_lit, pk_mul, nI_add, pk_sub, pk_rem4, nI_clamp, up2_o, up2_s, up2_i, cpV_o, cpV_i, shP_o, shP_n, r34, f35, f36, f37, bn] | simp (disch := omega) only [nI_lit, pk_mul, nI_add, pk_sub, pk_rem4, nI_clamp, up2_o, up2_s, up2_i, cpV_o, cpV_i] | skip
          refine fs_bast (pc2 := 120) rfl rfl rfl rfl (by assumption) (vp_in_nI (by omega) (by decide)) ?_
          refine fs_iconst (pc2 := 121) rfl rfl rfl ?_
          refine fs_istore (pc2 := 123) rfl rfl rfl (Nat.le_of_ble_eq_true rfl) ?_
          try simp (disch := omega) only [nI_lit, pk_mul, nI_add, pk_sub, pk_rem4, nI_clamp, up2_o, up2_s, up2_i, cpV_o, cpV_i, shP_o, shP_n, f35, f36, f37, bn]
          have l0 := inner i (by omega) (up2 (up2 (up2 (shP V1 mb p i) (mb + 35) (p + i) (nI z.2.2.length)) (mb + 36) (p + i) (bI z.1)) (mb + 37) (p + i) (bI z.2.1)) ?_ ?_ 27 0 (by omega)
          · rw [cpV_0] at l0
            exact l0
          · intro V3 hV3
            rw [hV3, shP_1 f35.symm f36.symm f37.symm (fun j => rfl)]
            exact ih (i + 1) [(5, .int (nI 27))] (by omega) (Or.inr ⟨_, rfl⟩)
          · intro j hj
            rw [up2_o (by omega), up2_o (by omega), up2_o (by omega), shP_m (by omega)]
  have loop : ∀ j i, i + j = y.2.2.length → fl_R cy z0 (ev_M cy ext d) 7 0 0 6 (some .int) kc_X7_shift Ret 15 [(0, .ref (z0 + mb)), (1, .int (nI h)), (2, .int (nI p)), (3, .int (nI y.2.2.length)), (4, .int (nI i))] [] sh (cpV V (mb + 44) 0 i (fun j => V (mb + 38) (27 * p + j))) n 0 0 := by
    intro j
    induction j with
    | zero =>
      intro i hi
      have hi2 : i = y.2.2.length := by omega
      subst hi2
      refine fs_iload (pc2 := 17) rfl rfl rfl rfl ?_
      refine fs_iload_n (pc2 := 18) rfl rfl rfl rfl ?_
      try simp (disch := omega) only [nI_lit, pk_mul, nI_add, pk_sub, pk_rem4, nI_clamp, up2_o, up2_s, up2_i, cpV_o, cpV_i, e34]
      refine fs_icmp_ge (pc2 := 21) rfl rfl rfl (fun h18 => ?_) (fun h18 => ?_)
      · refine fs_aload_n (pc2 := 47) rfl rfl rfl rfl ?_
        refine fs_getr (pc2 := 50) rfl rfl rfl (by assumption) rfl ?_
        refine fs_iload_n (pc2 := 51) rfl rfl rfl rfl ?_
        refine fs_dup2 (pc2 := 52) rfl rfl rfl ?_
        try simp (disch := omega) only [nI_lit, pk_mul, nI_add, pk_sub, pk_rem4, nI_clamp, up2_o, up2_s, up2_i, cpV_o, cpV_i, e34]
        refine fs_iald (pc2 := 53) rfl rfl rfl (by assumption) (vp_in_nI (by omega) (by decide)) ?_
        refine fs_iconst (pc2 := 54) rfl rfl rfl ?_
        refine fs_isub (pc2 := 55) rfl rfl rfl ?_
        try simp (disch := omega) only [nI_lit, pk_mul, nI_add, pk_sub, pk_rem4, nI_clamp, up2_o, up2_s, up2_i, cpV_o, cpV_i, e34]
        refine fs_iast (pc2 := 56) rfl rfl rfl (by assumption) (vp_in_nI (by omega) (by decide)) ?_
        refine fs_iload_n (pc2 := 57) rfl rfl rfl rfl ?_
        refine fs_istore (pc2 := 59) rfl rfl rfl (Nat.le_of_ble_eq_true rfl) ?_
        try simp (disch := omega) only [nI_lit, pk_mul, nI_add, pk_sub, pk_rem4, nI_clamp, up2_o, up2_s, up2_i, cpV_o, cpV_i, e34]
        have l0 := outer ps.length 0 [] (by omega) (Or.inl rfl)
        rw [shP_0] at l0
        rw [hV1] at l0
        exact l0
      · have := c_lt (a := y.2.2.length) (b := y.2.2.length) h18 rfl rfl
        omega
    | succ j ih =>
      intro i hi
      refine fs_iload (pc2 := 17) rfl rfl rfl rfl ?_
      refine fs_iload_n (pc2 := 18) rfl rfl rfl rfl ?_
      try simp (disch := omega) only [nI_lit, pk_mul, nI_add, pk_sub, pk_rem4, nI_clamp, up2_o, up2_s, up2_i, cpV_o, cpV_i]
      refine fs_icmp_ge (pc2 := 21) rfl rfl rfl (fun h18 => ?_) (fun h18 => ?_)
      · have := c_nlt (a := i) (b := y.2.2.length) h18 rfl rfl
        omega
      · refine fs_aload_n (pc2 := 22) rfl rfl rfl rfl ?_
        refine fs_getr (pc2 := 25) rfl rfl rfl (by assumption) rfl ?_
        refine fs_iload (pc2 := 27) rfl rfl rfl rfl ?_
        refine fs_aload_n (pc2 := 28) rfl rfl rfl rfl ?_
        refine fs_getr (pc2 := 31) rfl rfl rfl (by assumption) rfl ?_
        refine fs_bipush (pc2 := 33) rfl rfl rfl ?_
        refine fs_iload_n (pc2 := 34) rfl rfl rfl rfl ?_
        refine fs_imul (pc2 := 35) rfl rfl rfl ?_
        refine fs_iload (pc2 := 37) rfl rfl rfl rfl ?_
        refine fs_iadd (pc2 := 38) rfl rfl rfl ?_
        try simp (disch := omega) only [nI_lit, pk_mul, nI_add, pk_sub, pk_rem4, nI_clamp, up2_o, up2_s, up2_i, cpV_o, cpV_i]
        refine fs_iald (pc2 := 39) rfl rfl rfl (by assumption) (vp_in_nI (by omega) (by decide)) ?_
        try simp (disch := omega) only [nI_lit, pk_mul, nI_add, pk_sub, pk_rem4, nI_clamp, up2_o, up2_s, up2_i, cpV_o, cpV_i]
        refine fs_iast (pc2 := 40) rfl rfl rfl (by assumption) (vp_in_nI (by omega) (by decide)) ?_
        refine fs_iinc (pc2 := 43) rfl rfl rfl (Nat.le_of_ble_eq_true rfl) rfl ?_
        refine fs_goto rfl rfl ?_
        try simp (disch := omega) only [nI_lit, pk_mul, nI_add, pk_sub, pk_rem4, nI_clamp, up2_o, up2_s, up2_i, cpV_o, cpV_i]
        rw [cpV_10 rfl]
        exact ih (i + 1) (by omega)
  refine fs_bipush (pc2 := 2) rfl rfl rfl ?_
  refine fs_iload_n (pc2 := 3) rfl rfl rfl rfl ?_
  refine fs_imul (pc2 := 4) rfl rfl rfl ?_
  refine fs_istore_n (pc2 := 5) rfl rfl rfl (Nat.le_of_ble_eq_true rfl) ?_
  try simp (disch := omega) only [nI_lit, pk_mul, nI_add, pk_sub, pk_rem4, nI_clamp, up2_o, up2_s, up2_i, cpV_o, cpV_i]
  rw [← hp]
  refine fs_aload_n (pc2 := 6) rfl rfl rfl rfl ?_
  refine fs_getr (pc2 := 9) rfl rfl rfl (by assumption) rfl ?_
  refine fs_iload_n (pc2 := 10) rfl rfl rfl rfl ?_
  try simp (disch := omega) only [nI_lit, pk_mul, nI_add, pk_sub, pk_rem4, nI_clamp, up2_o, up2_s, up2_i, cpV_o, cpV_i, e35]
  refine fs_iald (pc2 := 11) rfl rfl rfl (by assumption) (vp_in_nI (by omega) (by decide)) ?_
  refine fs_istore_n (pc2 := 12) rfl rfl rfl (Nat.le_of_ble_eq_true rfl) ?_
  refine fs_iconst (pc2 := 13) rfl rfl rfl ?_
  refine fs_istore (pc2 := 15) rfl rfl rfl (Nat.le_of_ble_eq_true rfl) ?_
  try simp (disch := omega) only [nI_lit, pk_mul, nI_add, pk_sub, pk_rem4, nI_clamp, up2_o, up2_s, up2_i, cpV_o, cpV_i, e35]
  have l0 := loop y.2.2.length 0 (by omega)
  rw [cpV_0] at l0
  exact l0
end MSHIFT
