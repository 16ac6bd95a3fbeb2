theorem MC.gotAdd {V : fl_V} {mb c : Nat} {y : Ch} {zs : List Nat} {f : Nat → Int32} (hM : MC V mb c y) (hl : y.2.2.2.2.length + zs.length ≤ 100) (hf : ∀ j, j < zs.length → f j = nI (zs.getD j 0) ∧ zs.getD j 0 < 256) : MC (up2 (cpV V (mb + 21) (128 * c + y.2.2.2.2.length) zs.length f) (mb + 20) c (nI (y.2.2.2.2.length + zs.length))) mb c (y.1, y.2.1, y.2.2.1, y.2.2.2.1, y.2.2.2.2 ++ zs) := by
  obtain ⟨g1, g1b, g2, g3, g4, g5, g6, g7, g8, g9, g10, g11⟩ := hM
  refine ⟨fun p hp => ?_, g1b, ?_, ?_, g4, fun q x hq => ?_, ?_, ?_, ?_, ?_, g10, fun q x hq => ?_⟩
  · have c2 := chO_2 p hp
    rw [up2_o (by omega), cpV_o (by omega)]; exact g1 p hp
  · rw [up2_o (by omega), cpV_o (by omega)]; exact g2
  · rw [up2_o (by omega), cpV_o (by omega)]; exact g3
  · rw [up2_o (by omega), cpV_o (by omega), up2_o (by omega), cpV_o (by omega)]; exact g5 q x hq
  · rw [up2_s]; simp
  · simp; omega
  · rw [up2_o (by omega)]
    intro j b hj
    have lj := (List.getElem?_eq_some_iff.mp hj).1
    simp at lj
    by_cases z : j < y.2.2.2.2.length
    · rw [List.getElem?_append_left z] at hj
      rw [cpV_i (by omega)]
      exact g8 j b hj
    · rw [List.getElem?_append_right (by omega)] at hj
      obtain ⟨a1, a2⟩ := hf (j - y.2.2.2.2.length) (by omega)
      rw [List.getD_eq_getElem?_getD, hj] at a1 a2
      rw [cpV_s (by omega), show 128 * c + j - (128 * c + y.2.2.2.2.length) = j - y.2.2.2.2.length by omega]
      exact ⟨a1, a2⟩
  · rw [up2_o (by omega), cpV_o (by omega)]; exact g9
  · rw [up2_o (by omega), cpV_o (by omega), up2_o (by omega), cpV_o (by omega)]; exact g11 q x hq
theorem MC.keepR {V : fl_V} {mb c : Nat} {y : Ch} (hM : MC V mb c y) (hl : y.2.2.2.1.length < 4) {f : Nat → Int32} (hf : ∀ j, f j = V (mb + 21) (128 * c + j)) : MC (up2 (cpV (up2 V (mb + 23) (4 * c + y.2.2.2.1.length) (nI y.2.2.2.2.length)) (mb + 24) (128 * (4 * c + y.2.2.2.1.length)) y.2.2.2.2.length f) (mb + 22) c (nI (y.2.2.2.1.length + 1))) mb c (y.1, y.2.1, y.2.2.1, y.2.2.2.1 ++ [y.2.2.2.2], y.2.2.2.2) := by
  obtain ⟨g1, g1b, g2, g3, g4, g5, g6, g7, g8, g9, g10, g11⟩ := hM
  refine ⟨fun p hp => ?_, g1b, ?_, ?_, g4, fun q x hq => ?_, ?_, g7, ?_, ?_, ?_, fun q x hq => ?_⟩
  · have c2 := chO_2 p hp
    rw [up2_o (by omega), cpV_o (by omega), up2_o (by omega)]; exact g1 p hp
  · rw [up2_o (by omega), cpV_o (by omega), up2_o (by omega)]; exact g2
  · rw [up2_o (by omega), cpV_o (by omega), up2_o (by omega)]; exact g3
  · rw [up2_o (by omega), cpV_o (by omega), up2_o (by omega), up2_o (by omega), cpV_o (by omega), up2_o (by omega)]; exact g5 q x hq
  · rw [up2_o (by omega), cpV_o (by omega), up2_o (by omega)]; exact g6
  · rw [up2_o (by omega), cpV_o (by omega), up2_o (by omega)]; exact g8
  · rw [up2_s]; simp
  · simp; omega
  · have lq := (List.getElem?_eq_some_iff.mp hq).1
    simp at lq
    simp (disch := omega) only [up2_o, cpV_o]
    by_cases z : q < y.2.2.2.1.length
    · rw [List.getElem?_append_left z] at hq
      obtain ⟨a1, a2, a3⟩ := g11 q x hq
      rw [up2_i (by omega)]
      refine ⟨a1, a2, a3.kept (fun j hj => ?_)⟩
      rw [cpV_i (by omega), up2_o (by omega)]
    · have e : q = y.2.2.2.1.length := by omega
      subst e
      simp at hq
      subst hq
      refine ⟨up2_s, g7, fun j b hj => ?_⟩
      have lj := (List.getElem?_eq_some_iff.mp hj).1
      rw [cpV_s (by omega), hf, Nat.add_sub_cancel_left]
      exact g8 j b hj
theorem ho_leave_gt {H : Ho} {k : Nat} {y : Ch} (h1 : y.1 = (H.2.1 k).1) (h2 : y.2.2.2.1 = (H.2.1 k).2.2.2.1) : ho_leave (hoC H k y) k = ho_leave H k := by
  unfold ho_leave ch_leave
  simp only [hoC, hoN, hoQ, va_up2, va_up_self, h1, h2]
  rfl
theorem hoC_id {H : Ho} {k : Nat} : hoC H k (H.2.1 k) = H := by
  show (H.1, va_up H.2.1 k (H.2.1 k), H.2.2) = H
  rw [va_up_id]
def ho_rd (H : Ho) (k : Nat) (r : Bool × Ch) : Ho := if r.1 = true then hoC H k r.2 else ho_leave (hoC H k r.2) k
section MSEG
variable {cy : Nat → ClassId} {z0 : Nat} {ext : Nat → Nat → List Value → ev_H → Nat → ev_P → Prop} {d : Nat} {sh : fl_S} {V : fl_V} {n mb : Nat} {T : Nat → Nat} {S : List Nat} {HH : Nat → Ho} {H : Ho} {h k : Nat}
set_option maxRecDepth 100000 in
set_option maxHeartbeats 4000000 in
theorem m_seg141 (hm : isMo sh mb) (hM : Mo V mb T S (va_up HH h H)) (hh : h < 2) (hk : k < 4) {V0 : fl_V} (kp : KP mb V0 V) {D at0 : Nat} {zs : List Nat} (hD : (H.2.1 k).2.1 = some D) (lD : D ≤ 100) (hz : ML (V (mb + 40)) at0 zs) (hat : at0 + zs.length ≤ 320) (lz : zs.length ≤ 124) (hT : ∀ i, i < 2 → T i < 2048) {q3 q4 : Int32} {T7 : List (Nat × Value)} (hT7 : T7 = [] ∨ ∃ q, T7 = [(7, .int q)]) {Ret : ev_P} (hP : ∀ (v : Option Value) (sh' : fl_S) (V' : fl_V) (n' : Nat), (fun v sh' V' n' => v = none ∧ sh' = sh ∧ n' = n ∧ Mo V' mb (fun i => T i + 1) S (va_up HH h (ho_rd H k (ch_read2 (H.2.1 k) D zs))) ∧ KP mb V0 V') v sh' V' n' → Ret v (fl_f cy z0 sh' V') (z0 + n')) : fl_R cy z0 (ev_M cy ext (d + 3)) 7 0 0 9 none kc_X7_segment Ret 141 ([(0, .ref (z0 + mb)), (1, .int (nI h)), (2, .int (nI (4 * h + k))), (3, .int q3), (4, .int q4), (5, .int (nI at0)), (6, .int (nI zs.length))] ++ T7) [] sh V n 0 0 := by
  have m0 := hm.1
  have a7 : sh (mb + 7) = some (.inl (1, 8, none)) := hm.2 6 (1, 8) rfl
  have a8 : sh (mb + 8) = some (.inl (1, 8, none)) := hm.2 7 (1, 8) rfl
  have a9 : sh (mb + 9) = some (.inl (1, 8, none)) := hm.2 8 (1, 8) rfl
  have a19 : sh (mb + 19) = some (.inl (1, 8, none)) := hm.2 18 (1, 8) rfl
  have a20 : sh (mb + 20) = some (.inl (1, 8, none)) := hm.2 19 (1, 8) rfl
  have a21 : sh (mb + 21) = some (.inl (1, 1024, none)) := hm.2 20 (1, 1024) rfl
  have a22 : sh (mb + 22) = some (.inl (1, 8, none)) := hm.2 21 (1, 8) rfl
  have a23 : sh (mb + 23) = some (.inl (1, 32, none)) := hm.2 22 (1, 32) rfl
  have a24 : sh (mb + 24) = some (.inl (1, 4096, none)) := hm.2 23 (1, 4096) rfl
  have a40 : sh (mb + 40) = some (.inl (1, 320, none)) := hm.2 39 (1, 320) rfl
  have hMm := hM.mono (T' := fun i => T i + 1) (fun i hi => ⟨by omega, hT i hi⟩)
  have hC := (hM.host hh).2.2.2.2.2.2 k hk
  have e19 : V (mb + 19) (4 * h + k) = nI D := by rw [hC.2.2.1, hD]; rfl
  have e20 := hC.2.2.2.2.2.2.1
  have l20 := hC.2.2.2.2.2.2.2.1
  have e22 := hC.2.2.2.2.2.2.2.2.2.1
  have l22 := hC.2.2.2.2.2.2.2.2.2.2.1
  obtain ⟨gl, hgl⟩ : ∃ gl, gl = (H.2.1 k).2.2.2.2.length := ⟨_, rfl⟩
  obtain ⟨rl, hrl⟩ : ∃ rl, rl = (H.2.1 k).2.2.2.1.length := ⟨_, rfl⟩
  rw [← hgl] at e20 l20
  rw [← hrl] at e22 l22
  have hzz : ∀ j, j < zs.length → V (mb + 40) (at0 + j) = nI (zs.getD j 0) ∧ zs.getD j 0 < 256 := fun j hj => hz.at hj
  have loop2 : gl + zs.length = D → rl < 4 → ∀ j i, i + j = D → fl_R cy z0 (ev_M cy ext (d + 3)) 7 0 0 9 none kc_X7_segment Ret 298 [(0, .ref (z0 + mb)), (1, .int (nI h)), (2, .int (nI (4 * h + k))), (3, .int q3), (4, .int q4), (5, .int (nI at0)), (6, .int (nI zs.length)), (7, .int (nI (4 * (4 * h + k) + rl))), (8, .int (nI i))] [] sh (cpV (up2 (up2 (cpV V (mb + 21) (128 * (4 * h + k) + gl) zs.length (fun j => V (mb + 40) (at0 + j))) (mb + 20) (4 * h + k) (nI (gl + zs.length))) (mb + 23) (4 * (4 * h + k) + rl) (nI D)) (mb + 24) (128 * (4 * (4 * h + k) + rl)) i (fun j => cpV V (mb + 21) (128 * (4 * h + k) + gl) zs.length (fun j => V (mb + 40) (at0 + j)) (mb + 21) (128 * (4 * h + k) + j))) n 0 0 := by
    intro eD l4 j
    have hC2 := hC.gotAdd (zs := zs) (f := fun j => V (mb + 40) (at0 + j)) (by omega) hzz
    rw [← hgl] at hC2
    induction j with
    | zero =>
      intro i hi
      have hi2 : D = i := by omega
      subst hi2
      refine fs_iload (pc2 := 300) rfl rfl rfl rfl ?_
      refine fs_aload_n (pc2 := 301) rfl rfl rfl rfl ?_
      refine fs_getr (pc2 := 304) rfl rfl rfl (by assumption) rfl ?_
      refine fs_iload_n (pc2 := 305) rfl rfl rfl rfl ?_
      try simp (disch := omega) only [nI_lit, pk_mul, nI_add, pk_sub, pk_rem4, nI_clamp, up2_o, up2_s, up2_i, cpV_o, cpV_i, e19, e22]
      refine fs_iald (pc2 := 306) rfl rfl rfl (by assumption) (vp_in_nI (by omega) (by decide)) ?_
      try simp (disch := omega) only [nI_lit, pk_mul, nI_add, pk_sub, pk_rem4, nI_clamp, up2_o, up2_s, up2_i, cpV_o, cpV_i, e19, e22]
      refine fs_icmp_ge (pc2 := 309) rfl rfl rfl (fun h306 => ?_) (fun h306 => ?_)
      · refine fs_aload_n (pc2 := 343) rfl rfl rfl rfl ?_
        refine fs_getr (pc2 := 346) rfl rfl rfl (by assumption) rfl ?_
        refine fs_iload_n (pc2 := 347) rfl rfl rfl rfl ?_
        refine fs_dup2 (pc2 := 348) rfl rfl rfl ?_
        try simp (disch := omega) only [nI_lit, pk_mul, nI_add, pk_sub, pk_rem4, nI_clamp, up2_o, up2_s, up2_i, cpV_o, cpV_i, e19, e22]
        refine fs_iald (pc2 := 349) rfl rfl rfl (by assumption) (vp_in_nI (by omega) (by decide)) ?_
        refine fs_iconst (pc2 := 350) rfl rfl rfl ?_
        refine fs_iadd (pc2 := 351) rfl rfl rfl ?_
        try simp (disch := omega) only [nI_lit, pk_mul, nI_add, pk_sub, pk_rem4, nI_clamp, up2_o, up2_s, up2_i, cpV_o, cpV_i, e19, e22]
        refine fs_iast (pc2 := 352) rfl rfl rfl (by assumption) (vp_in_nI (by omega) (by decide)) ?_
        refine fs_aload_n (pc2 := 353) rfl rfl rfl rfl ?_
        refine fs_getr (pc2 := 356) rfl rfl rfl (by assumption) rfl ?_
        refine fs_iload_n (pc2 := 357) rfl rfl rfl rfl ?_
        refine fs_iconst (pc2 := 358) rfl rfl rfl ?_
        try simp (disch := omega) only [nI_lit, pk_mul, nI_add, pk_sub, pk_rem4, nI_clamp, up2_o, up2_s, up2_i, cpV_o, cpV_i, e19, e22]
        refine fs_iast (pc2 := 359) rfl rfl rfl (by assumption) (vp_in_nI (by omega) (by decide)) ?_
        refine fs_aload_n (pc2 := 360) rfl rfl rfl rfl ?_
        refine fs_getr (pc2 := 363) rfl rfl rfl (by assumption) rfl ?_
        refine fs_iload_n (pc2 := 364) rfl rfl rfl rfl ?_
        refine fs_iconst (pc2 := 365) rfl rfl rfl ?_
        try simp (disch := omega) only [nI_lit, pk_mul, nI_add, pk_sub, pk_rem4, nI_clamp, up2_o, up2_s, up2_i, cpV_o, cpV_i, e19, e22]
        refine fs_iast (pc2 := 366) rfl rfl rfl (by assumption) (vp_in_nI (by omega) (by decide)) ?_
        try simp (disch := omega) only [nI_lit, pk_mul, nI_add, pk_sub, pk_rem4, nI_clamp, up2_o, up2_s, up2_i, cpV_o, cpV_i, e19, e22]
        refine fs_ret rfl rfl ?_
        have hC3 := (((MC.keepR hC2 (by rw [← hrl]; exact l4) (f := (fun j => cpV V (mb + 21) (128 * (4 * h + k) + gl) zs.length (fun j => V (mb + 40) (at0 + j)) (mb + 21) (128 * (4 * h + k) + j))) (fun j => by rw [up2_o (by omega)])).pD none).pG0)
        rw [← hrl, show ((H.2.1 k).2.2.2.2 ++ zs).length = D by rw [List.length_append, ← hgl]; exact eD] at hC3
        have er : ch_read2 (H.2.1 k) D zs = (true, ((H.2.1 k).1, none, (H.2.1 k).2.2.1, (H.2.1 k).2.2.2.1 ++ [(H.2.1 k).2.2.2.2 ++ zs], [])) := by
          unfold ch_read2 ch_keep
          rw [← hgl, if_neg (by omega), if_neg (by omega), if_neg (by rw [← hrl]; omega)]
        rw [er] at hP
        refine hP _ _ _ _ ⟨rfl, rfl, rfl, hMm.pC hh hk (((((((FM.refl.cp (j := 21) (fun x a1 a2 => by simp [own] <;> omega)).up (j := 20) (by simp [own])).up (j := 23) (by simp [own] <;> omega)).cp (j := 24) (fun x a1 a2 => by simp [own] <;> omega)).up (j := 22) (by simp [own])).up (j := 19) (by simp [own])).up (j := 20) (by simp [own])) hC3, kp.trans (((((((KP.refl.cp (by decide)).up (by decide)).up (by decide)).cp (by decide)).up (by decide)).up (by decide)).up (by decide))⟩
      · have := c_lt (a := D) (b := D) h306 rfl rfl
        omega
    | succ j ih =>
      intro i hi
      refine fs_iload (pc2 := 300) rfl rfl rfl rfl ?_
      refine fs_aload_n (pc2 := 301) rfl rfl rfl rfl ?_
      refine fs_getr (pc2 := 304) rfl rfl rfl (by assumption) rfl ?_
      refine fs_iload_n (pc2 := 305) rfl rfl rfl rfl ?_
      try simp (disch := omega) only [nI_lit, pk_mul, nI_add, pk_sub, pk_rem4, nI_clamp, up2_o, up2_s, up2_i, cpV_o, cpV_i, e19]
      refine fs_iald (pc2 := 306) rfl rfl rfl (by assumption) (vp_in_nI (by omega) (by decide)) ?_
      try simp (disch := omega) only [nI_lit, pk_mul, nI_add, pk_sub, pk_rem4, nI_clamp, up2_o, up2_s, up2_i, cpV_o, cpV_i, e19]
      refine fs_icmp_ge (pc2 := 309) rfl rfl rfl (fun h306 => ?_) (fun h306 => ?_)
      · have := c_nlt (a := i) (b := D) h306 rfl rfl
        omega
      · refine fs_aload_n (pc2 := 310) rfl rfl rfl rfl ?_
        refine fs_getr (pc2 := 313) rfl rfl rfl (by assumption) rfl ?_
        refine fs_sipush (pc2 := 316) rfl rfl rfl ?_
        refine fs_iload (pc2 := 318) rfl rfl rfl rfl ?_
        refine fs_imul (pc2 := 319) rfl rfl rfl ?_
        refine fs_iload (pc2 := 321) rfl rfl rfl rfl ?_
        refine fs_iadd (pc2 := 322) rfl rfl rfl ?_
        refine fs_aload_n (pc2 := 323) rfl rfl rfl rfl ?_
        refine fs_getr (pc2 := 326) rfl rfl rfl (by assumption) rfl ?_
        refine fs_sipush (pc2 := 329) rfl rfl rfl ?_
        refine fs_iload_n (pc2 := 330) rfl rfl rfl rfl ?_
        refine fs_imul (pc2 := 331) rfl rfl rfl ?_
        refine fs_iload (pc2 := 333) rfl rfl rfl rfl ?_
        refine fs_iadd (pc2 := 334) rfl rfl rfl ?_
        try simp (disch := omega) only [nI_lit, pk_mul, nI_add, pk_sub, pk_rem4, nI_clamp, up2_o, up2_s, up2_i, cpV_o, cpV_i, e19]
        refine fs_iald (pc2 := 335) rfl rfl rfl (by assumption) (vp_in_nI (by omega) (by decide)) ?_
        try simp (disch := omega) only [nI_lit, pk_mul, nI_add, pk_sub, pk_rem4, nI_clamp, up2_o, up2_s, up2_i, cpV_o, cpV_i, e19]
        refine fs_iast (pc2 := 336) rfl rfl rfl (by assumption) (vp_in_nI (by omega) (by decide)) ?_
        refine fs_iinc (pc2 := 339) rfl rfl rfl (Nat.le_of_ble_eq_true rfl) rfl ?_
        refine fs_goto rfl rfl ?_
        try simp (disch := omega) only [nI_lit, pk_mul, nI_add, pk_sub, pk_rem4, nI_clamp, up2_o, up2_s, up2_i, cpV_o, cpV_i]
        rw [cpV_1 rfl]
        exact ih (i + 1) (by omega)
  have loop : gl + zs.length ≤ D → (gl + zs.length = D → rl < 4) → ∀ j i, i + j = zs.length → fl_R cy z0 (ev_M cy ext (d + 3)) 7 0 0 9 none kc_X7_segment Ret 197 [(0, .ref (z0 + mb)), (1, .int (nI h)), (2, .int (nI (4 * h + k))), (3, .int q3), (4, .int q4), (5, .int (nI at0)), (6, .int (nI zs.length)), (7, .int (nI i))] [] sh (cpV V (mb + 21) (128 * (4 * h + k) + gl) i (fun j => V (mb + 40) (at0 + j))) n 0 0 := by
    intro lD2 l4 j
    induction j with
    | zero =>
      intro i hi
      have hi2 : i = zs.length := by omega
      subst hi2
      refine fs_iload (pc2 := 199) rfl rfl rfl rfl ?_
      refine fs_iload (pc2 := 201) rfl rfl rfl rfl ?_
      try simp (disch := omega) only [nI_lit, pk_mul, nI_add, pk_sub, pk_rem4, nI_clamp, up2_o, up2_s, up2_i, cpV_o, cpV_i, e19, e20, e22]
      refine fs_icmp_ge (pc2 := 204) rfl rfl rfl (fun h201 => ?_) (fun h201 => ?_)
      · refine fs_aload_n (pc2 := 241) rfl rfl rfl rfl ?_
        refine fs_getr (pc2 := 244) rfl rfl rfl (by assumption) rfl ?_
        refine fs_iload_n (pc2 := 245) rfl rfl rfl rfl ?_
        refine fs_aload_n (pc2 := 246) rfl rfl rfl rfl ?_
        refine fs_getr (pc2 := 249) rfl rfl rfl (by assumption) rfl ?_
        refine fs_iload_n (pc2 := 250) rfl rfl rfl rfl ?_
        try simp (disch := omega) only [nI_lit, pk_mul, nI_add, pk_sub, pk_rem4, nI_clamp, up2_o, up2_s, up2_i, cpV_o, cpV_i, e19, e20, e22]
        refine fs_iald (pc2 := 251) rfl rfl rfl (by assumption) (vp_in_nI (by omega) (by decide)) ?_
        refine fs_iload (pc2 := 253) rfl rfl rfl rfl ?_
        refine fs_iadd (pc2 := 254) rfl rfl rfl ?_
        try simp (disch := omega) only [nI_lit, pk_mul, nI_add, pk_sub, pk_rem4, nI_clamp, up2_o, up2_s, up2_i, cpV_o, cpV_i, e19, e20, e22]
        refine fs_iast (pc2 := 255) rfl rfl rfl (by assumption) (vp_in_nI (by omega) (by decide)) ?_
        refine fs_aload_n (pc2 := 256) rfl rfl rfl rfl ?_
        refine fs_getr (pc2 := 259) rfl rfl rfl (by assumption) rfl ?_
        refine fs_iload_n (pc2 := 260) rfl rfl rfl rfl ?_
        try simp (disch := omega) only [nI_lit, pk_mul, nI_add, pk_sub, pk_rem4, nI_clamp, up2_o, up2_s, up2_i, cpV_o, cpV_i, e19, e20, e22]
        refine fs_iald (pc2 := 261) rfl rfl rfl (by assumption) (vp_in_nI (by omega) (by decide)) ?_
        refine fs_aload_n (pc2 := 262) rfl rfl rfl rfl ?_
        refine fs_getr (pc2 := 265) rfl rfl rfl (by assumption) rfl ?_
        refine fs_iload_n (pc2 := 266) rfl rfl rfl rfl ?_
        try simp (disch := omega) only [nI_lit, pk_mul, nI_add, pk_sub, pk_rem4, nI_clamp, up2_o, up2_s, up2_i, cpV_o, cpV_i, e19, e20, e22]
        refine fs_iald (pc2 := 267) rfl rfl rfl (by assumption) (vp_in_nI (by omega) (by decide)) ?_
        try simp (disch := omega) only [nI_lit, pk_mul, nI_add, pk_sub, pk_rem4, nI_clamp, up2_o, up2_s, up2_i, cpV_o, cpV_i, e19, e20, e22]
        refine fs_icmp_ne (pc2 := 270) rfl rfl rfl (fun h267 => ?_) (fun h267 => ?_)
        · have k267 : gl + zs.length ≠ D := c_ne h267 rfl rfl
          try simp (disch := omega) only [nI_lit, pk_mul, nI_add, pk_sub, pk_rem4, nI_clamp, up2_o, up2_s, up2_i, cpV_o, cpV_i, e19, e20, e22]
          refine fs_ret rfl rfl ?_
          have hC2 := hC.gotAdd (zs := zs) (f := fun j => V (mb + 40) (at0 + j)) (by omega) hzz
          rw [← hgl] at hC2
          have er : ch_read2 (H.2.1 k) D zs = (true, ((H.2.1 k).1, (H.2.1 k).2.1, (H.2.1 k).2.2.1, (H.2.1 k).2.2.2.1, (H.2.1 k).2.2.2.2 ++ zs)) := by
            unfold ch_read2
            rw [← hgl, if_neg (by omega), if_pos (by omega)]
          rw [er] at hP
          exact hP _ _ _ _ ⟨rfl, rfl, rfl, hMm.pC hh hk ((FM.refl.cp (j := 21) (fun x a1 a2 => by simp [own] <;> omega)).up (j := 20) (by simp [own])) hC2, kp.trans ((KP.refl.cp (by decide)).up (by decide))⟩
        · have k267 : gl + zs.length = D := c_eq h267 rfl rfl
          refine fs_iconst (pc2 := 271) rfl rfl rfl ?_
          refine fs_iload_n (pc2 := 272) rfl rfl rfl rfl ?_
          refine fs_imul (pc2 := 273) rfl rfl rfl ?_
          refine fs_aload_n (pc2 := 274) rfl rfl rfl rfl ?_
          refine fs_getr (pc2 := 277) rfl rfl rfl (by assumption) rfl ?_
          refine fs_iload_n (pc2 := 278) rfl rfl rfl rfl ?_
          try simp (disch := omega) only [nI_lit, pk_mul, nI_add, pk_sub, pk_rem4, nI_clamp, up2_o, up2_s, up2_i, cpV_o, cpV_i, e19, e20, e22]
          refine fs_iald (pc2 := 279) rfl rfl rfl (by assumption) (vp_in_nI (by omega) (by decide)) ?_
          refine fs_iadd (pc2 := 280) rfl rfl rfl ?_
          refine fs_istore (pc2 := 282) rfl rfl rfl (Nat.le_of_ble_eq_true rfl) ?_
          refine fs_aload_n (pc2 := 283) rfl rfl rfl rfl ?_
          refine fs_getr (pc2 := 286) rfl rfl rfl (by assumption) rfl ?_
          refine fs_iload (pc2 := 288) rfl rfl rfl rfl ?_
          refine fs_aload_n (pc2 := 289) rfl rfl rfl rfl ?_
          refine fs_getr (pc2 := 292) rfl rfl rfl (by assumption) rfl ?_
          refine fs_iload_n (pc2 := 293) rfl rfl rfl rfl ?_
          try simp (disch := omega) only [nI_lit, pk_mul, nI_add, pk_sub, pk_rem4, nI_clamp, up2_o, up2_s, up2_i, cpV_o, cpV_i, e19, e20, e22]
          refine fs_iald (pc2 := 294) rfl rfl rfl (by assumption) (vp_in_nI (by omega) (by decide)) ?_
          try simp (disch := omega) only [nI_lit, pk_mul, nI_add, pk_sub, pk_rem4, nI_clamp, up2_o, up2_s, up2_i, cpV_o, cpV_i, e19, e20, e22]
          refine fs_iast (pc2 := 295) rfl rfl rfl (by assumption) (vp_in_nI (by omega) (by decide)) ?_
          refine fs_iconst (pc2 := 296) rfl rfl rfl ?_
          refine fs_istore (pc2 := 298) rfl rfl rfl (Nat.le_of_ble_eq_true rfl) ?_
          try simp (disch := omega) only [nI_lit, pk_mul, nI_add, pk_sub, pk_rem4, nI_clamp, up2_o, up2_s, up2_i, cpV_o, cpV_i, e19]
          have l0 := loop2 k267 (l4 k267) D 0 (by omega)
          rw [cpV_0] at l0
          exact l0
      · have := c_lt (a := zs.length) (b := zs.length) h201 rfl rfl
        omega
    | succ j ih =>
      intro i hi
      refine fs_iload (pc2 := 199) rfl rfl rfl rfl ?_
      refine fs_iload (pc2 := 201) rfl rfl rfl rfl ?_
      try simp (disch := omega) only [nI_lit, pk_mul, nI_add, pk_sub, pk_rem4, nI_clamp, up2_o, up2_s, up2_i, cpV_o, cpV_i, e20]
      refine fs_icmp_ge (pc2 := 204) rfl rfl rfl (fun h201 => ?_) (fun h201 => ?_)
      · have := c_nlt (a := i) (b := zs.length) h201 rfl rfl
        omega
      · refine fs_aload_n (pc2 := 205) rfl rfl rfl rfl ?_
        refine fs_getr (pc2 := 208) rfl rfl rfl (by assumption) rfl ?_
        refine fs_sipush (pc2 := 211) rfl rfl rfl ?_
        refine fs_iload_n (pc2 := 212) rfl rfl rfl rfl ?_
        refine fs_imul (pc2 := 213) rfl rfl rfl ?_
        refine fs_aload_n (pc2 := 214) rfl rfl rfl rfl ?_
        refine fs_getr (pc2 := 217) rfl rfl rfl (by assumption) rfl ?_
        refine fs_iload_n (pc2 := 218) rfl rfl rfl rfl ?_
        try simp (disch := omega) only [nI_lit, pk_mul, nI_add, pk_sub, pk_rem4, nI_clamp, up2_o, up2_s, up2_i, cpV_o, cpV_i, e20]
        refine fs_iald (pc2 := 219) rfl rfl rfl (by assumption) (vp_in_nI (by omega) (by decide)) ?_
        refine fs_iadd (pc2 := 220) rfl rfl rfl ?_
        refine fs_iload (pc2 := 222) rfl rfl rfl rfl ?_
        refine fs_iadd (pc2 := 223) rfl rfl rfl ?_
        refine fs_aload_n (pc2 := 224) rfl rfl rfl rfl ?_
        refine fs_getr (pc2 := 227) rfl rfl rfl (by assumption) rfl ?_
        refine fs_iload (pc2 := 229) rfl rfl rfl rfl ?_
        refine fs_iload (pc2 := 231) rfl rfl rfl rfl ?_
        refine fs_iadd (pc2 := 232) rfl rfl rfl ?_
        try simp (disch := omega) only [nI_lit, pk_mul, nI_add, pk_sub, pk_rem4, nI_clamp, up2_o, up2_s, up2_i, cpV_o, cpV_i, e20]
        refine fs_iald (pc2 := 233) rfl rfl rfl (by assumption) (vp_in_nI (by omega) (by decide)) ?_
        try simp (disch := omega) only [nI_lit, pk_mul, nI_add, pk_sub, pk_rem4, nI_clamp, up2_o, up2_s, up2_i, cpV_o, cpV_i, e20]
        refine fs_iast (pc2 := 234) rfl rfl rfl (by assumption) (vp_in_nI (by omega) (by decide)) ?_
        refine fs_iinc (pc2 := 237) rfl rfl rfl (Nat.le_of_ble_eq_true rfl) rfl ?_
        refine fs_goto rfl rfl ?_
        try simp (disch := omega) only [nI_lit, pk_mul, nI_add, pk_sub, pk_rem4, nI_clamp, up2_o, up2_s, up2_i, cpV_o, cpV_i]
        rw [cpV_1 rfl]
        exact ih (i + 1) (by omega)
  rcases hT7 with rfl | ⟨q7, rfl⟩
  · refine fs_aload_n (pc2 := 142) rfl rfl rfl rfl ?_
    refine fs_getr (pc2 := 145) rfl rfl rfl (by assumption) rfl ?_
    refine fs_iload_n (pc2 := 146) rfl rfl rfl rfl ?_
    try simp (disch := omega) only [nI_lit, pk_mul, nI_add, pk_sub, pk_rem4, nI_clamp, up2_o, up2_s, up2_i, cpV_o, cpV_i, e19, e20, e22]
    refine fs_iald (pc2 := 147) rfl rfl rfl (by assumption) (vp_in_nI (by omega) (by decide)) ?_
    refine fs_iload (pc2 := 149) rfl rfl rfl rfl ?_
    refine fs_iadd (pc2 := 150) rfl rfl rfl ?_
    refine fs_aload_n (pc2 := 151) rfl rfl rfl rfl ?_
    refine fs_getr (pc2 := 154) rfl rfl rfl (by assumption) rfl ?_
    refine fs_iload_n (pc2 := 155) rfl rfl rfl rfl ?_
    try simp (disch := omega) only [nI_lit, pk_mul, nI_add, pk_sub, pk_rem4, nI_clamp, up2_o, up2_s, up2_i, cpV_o, cpV_i, e19, e20, e22]
    refine fs_iald (pc2 := 156) rfl rfl rfl (by assumption) (vp_in_nI (by omega) (by decide)) ?_
    try simp (disch := omega) only [nI_lit, pk_mul, nI_add, pk_sub, pk_rem4, nI_clamp, up2_o, up2_s, up2_i, cpV_o, cpV_i, e19, e20, e22]
    refine fs_icmp_gt (pc2 := 159) rfl rfl rfl (fun h156 => ?_) (fun h156 => ?_)
    · have k156 : D < gl + zs.length := c_nle h156 rfl rfl
      have er : ch_read2 (H.2.1 k) D zs = (false, H.2.1 k) := by unfold ch_read2; rw [← hgl, if_pos k156]
      rw [er] at hP
      refine fs_aload_n (pc2 := 188) rfl rfl rfl rfl ?_
      refine fs_iload_n (pc2 := 189) rfl rfl rfl rfl ?_
      refine fs_iload_n (pc2 := 190) rfl rfl rfl rfl ?_
      try simp (disch := omega) only [nI_lit, pk_mul, nI_add, pk_sub, pk_rem4, nI_clamp, up2_o, up2_s, up2_i, cpV_o, cpV_i, e19, e20, e22]
      refine fs_callv (pc2 := 193) rfl rfl rfl rfl ⟨rfl, rfl⟩ (Nat.le_of_ble_eq_true rfl) (Nat.le_of_ble_eq_true rfl) (Nat.le_of_ble_eq_true rfl) (fs_rcv rfl (by assumption)) (m_leaveNow hm hM hh hk hT) (fun v9 sh9 V9 n9 hp9 => ?_)
      obtain ⟨ea9, eb9, ec9, hM2, kp2⟩ := hp9
      cases ea9
      obtain rfl := eb9.symm
      obtain rfl := ec9.symm
      try simp (disch := omega) only [nI_lit, pk_mul, nI_add, pk_sub, pk_rem4, nI_clamp, up2_o, up2_s, up2_i, cpV_o, cpV_i, e19, e20, e22]
      refine fs_ret rfl rfl ?_
      refine hP _ _ _ _ ⟨rfl, rfl, rfl, ?_, kp.trans kp2⟩
      simp only [ho_rd, Bool.false_eq_true, if_false]
      rw [ho_leave_gt (H := H) (k := k) (y := H.2.1 k) rfl rfl]
      exact hM2
    · have k156 : gl + zs.length ≤ D := c_le h156 rfl rfl
      refine fs_aload_n (pc2 := 160) rfl rfl rfl rfl ?_
      refine fs_getr (pc2 := 163) rfl rfl rfl (by assumption) rfl ?_
      refine fs_iload_n (pc2 := 164) rfl rfl rfl rfl ?_
      try simp (disch := omega) only [nI_lit, pk_mul, nI_add, pk_sub, pk_rem4, nI_clamp, up2_o, up2_s, up2_i, cpV_o, cpV_i, e19, e20, e22]
      refine fs_iald (pc2 := 165) rfl rfl rfl (by assumption) (vp_in_nI (by omega) (by decide)) ?_
      refine fs_iload (pc2 := 167) rfl rfl rfl rfl ?_
      refine fs_iadd (pc2 := 168) rfl rfl rfl ?_
      refine fs_aload_n (pc2 := 169) rfl rfl rfl rfl ?_
      refine fs_getr (pc2 := 172) rfl rfl rfl (by assumption) rfl ?_
      refine fs_iload_n (pc2 := 173) rfl rfl rfl rfl ?_
      try simp (disch := omega) only [nI_lit, pk_mul, nI_add, pk_sub, pk_rem4, nI_clamp, up2_o, up2_s, up2_i, cpV_o, cpV_i, e19, e20, e22]
      refine fs_iald (pc2 := 174) rfl rfl rfl (by assumption) (vp_in_nI (by omega) (by decide)) ?_
      try simp (disch := omega) only [nI_lit, pk_mul, nI_add, pk_sub, pk_rem4, nI_clamp, up2_o, up2_s, up2_i, cpV_o, cpV_i, e19, e20, e22]
      refine fs_icmp_ne (pc2 := 177) rfl rfl rfl (fun h174 => ?_) (fun h174 => ?_)
      · have k174 : gl + zs.length ≠ D := c_ne h174 rfl rfl
        refine fs_iconst (pc2 := 195) rfl rfl rfl ?_
        refine fs_istore (pc2 := 197) rfl rfl rfl (Nat.le_of_ble_eq_true rfl) ?_
        try simp (disch := omega) only [nI_lit, pk_mul, nI_add, pk_sub, pk_rem4, nI_clamp, up2_o, up2_s, up2_i, cpV_o, cpV_i]
        have l0 := loop k156 (by omega) zs.length 0 (by omega)
        rw [cpV_0] at l0
        exact l0
      · have k174 : gl + zs.length = D := c_eq h174 rfl rfl
        refine fs_aload_n (pc2 := 178) rfl rfl rfl rfl ?_
        refine fs_getr (pc2 := 181) rfl rfl rfl (by assumption) rfl ?_
        refine fs_iload_n (pc2 := 182) rfl rfl rfl rfl ?_
        try simp (disch := omega) only [nI_lit, pk_mul, nI_add, pk_sub, pk_rem4, nI_clamp, up2_o, up2_s, up2_i, cpV_o, cpV_i, e19, e20, e22]
        refine fs_iald (pc2 := 183) rfl rfl rfl (by assumption) (vp_in_nI (by omega) (by decide)) ?_
        refine fs_iconst (pc2 := 184) rfl rfl rfl ?_
        try simp (disch := omega) only [nI_lit, pk_mul, nI_add, pk_sub, pk_rem4, nI_clamp, up2_o, up2_s, up2_i, cpV_o, cpV_i, e19, e20, e22]
        refine fs_icmp_ne (pc2 := 187) rfl rfl rfl (fun h184 => ?_) (fun h184 => ?_)
        · have k184 : rl ≠ 4 := c_ne (b := 4) h184 rfl rfl
          refine fs_iconst (pc2 := 195) rfl rfl rfl ?_
          refine fs_istore (pc2 := 197) rfl rfl rfl (Nat.le_of_ble_eq_true rfl) ?_
          try simp (disch := omega) only [nI_lit, pk_mul, nI_add, pk_sub, pk_rem4, nI_clamp, up2_o, up2_s, up2_i, cpV_o, cpV_i]
          have l0 := loop k156 (by omega) zs.length 0 (by omega)
          rw [cpV_0] at l0
          exact l0
        · have k184 : rl = 4 := c_eq (b := 4) h184 rfl rfl
          have er : ch_read2 (H.2.1 k) D zs = (false, ((H.2.1 k).1, (H.2.1 k).2.1, (H.2.1 k).2.2.1, (H.2.1 k).2.2.2.1, (H.2.1 k).2.2.2.2 ++ zs)) := by
            unfold ch_read2 ch_keep
            rw [← hgl, if_neg (by omega), if_neg (by omega), if_pos (by rw [← hrl]; exact k184)]
          rw [er] at hP
          refine fs_aload_n (pc2 := 188) rfl rfl rfl rfl ?_
          refine fs_iload_n (pc2 := 189) rfl rfl rfl rfl ?_
          refine fs_iload_n (pc2 := 190) rfl rfl rfl rfl ?_
          try simp (disch := omega) only [nI_lit, pk_mul, nI_add, pk_sub, pk_rem4, nI_clamp, up2_o, up2_s, up2_i, cpV_o, cpV_i, e19, e20, e22]
          refine fs_callv (pc2 := 193) rfl rfl rfl rfl ⟨rfl, rfl⟩ (Nat.le_of_ble_eq_true rfl) (Nat.le_of_ble_eq_true rfl) (Nat.le_of_ble_eq_true rfl) (fs_rcv rfl (by assumption)) (m_leaveNow hm hM hh hk hT) (fun v9 sh9 V9 n9 hp9 => ?_)
          obtain ⟨ea9, eb9, ec9, hM2, kp2⟩ := hp9
          cases ea9
          obtain rfl := eb9.symm
          obtain rfl := ec9.symm
          try simp (disch := omega) only [nI_lit, pk_mul, nI_add, pk_sub, pk_rem4, nI_clamp, up2_o, up2_s, up2_i, cpV_o, cpV_i, e19, e20, e22]
          refine fs_ret rfl rfl ?_
          refine hP _ _ _ _ ⟨rfl, rfl, rfl, ?_, kp.trans kp2⟩
          simp only [ho_rd, Bool.false_eq_true, if_false]
          rw [ho_leave_gt (H := H) (k := k) (y := ((H.2.1 k).1, (H.2.1 k).2.1, (H.2.1 k).2.2.1, (H.2.1 k).2.2.2.1, (H.2.1 k).2.2.2.2 ++ zs)) rfl rfl]
          exact hM2
  · refine fs_aload_n (pc2 := 142) rfl rfl rfl rfl ?_
    refine fs_getr (pc2 := 145) rfl rfl rfl (by assumption) rfl ?_
    refine fs_iload_n (pc2 := 146) rfl rfl rfl rfl ?_
    try simp (disch := omega) only [nI_lit, pk_mul, nI_add, pk_sub, pk_rem4, nI_clamp, up2_o, up2_s, up2_i, cpV_o, cpV_i, e19, e20, e22]
    refine fs_iald (pc2 := 147) rfl rfl rfl (by assumption) (vp_in_nI (by omega) (by decide)) ?_
    refine fs_iload (pc2 := 149) rfl rfl rfl rfl ?_
    refine fs_iadd (pc2 := 150) rfl rfl rfl ?_
    refine fs_aload_n (pc2 := 151) rfl rfl rfl rfl ?_
    refine fs_getr (pc2 := 154) rfl rfl rfl (by assumption) rfl ?_
    refine fs_iload_n (pc2 := 155) rfl rfl rfl rfl ?_
    try simp (disch := omega) only [nI_lit, pk_mul, nI_add, pk_sub, pk_rem4, nI_clamp, up2_o, up2_s, up2_i, cpV_o, cpV_i, e19, e20, e22]
    refine fs_iald (pc2 := 156) rfl rfl rfl (by assumption) (vp_in_nI (by omega) (by decide)) ?_
    try simp (disch := omega) only [nI_lit, pk_mul, nI_add, pk_sub, pk_rem4, nI_clamp, up2_o, up2_s, up2_i, cpV_o, cpV_i, e19, e20, e22]
    refine fs_icmp_gt (pc2 := 159) rfl rfl rfl (fun h156 => ?_) (fun h156 => ?_)
    · have k156 : D < gl + zs.length := c_nle h156 rfl rfl
      have er : ch_read2 (H.2.1 k) D zs = (false, H.2.1 k) := by unfold ch_read2; rw [← hgl, if_pos k156]
      rw [er] at hP
      refine fs_aload_n (pc2 := 188) rfl rfl rfl rfl ?_
      refine fs_iload_n (pc2 := 189) rfl rfl rfl rfl ?_
      refine fs_iload_n (pc2 := 190) rfl rfl rfl rfl ?_
      try simp (disch := omega) only [nI_lit, pk_mul, nI_add, pk_sub, pk_rem4, nI_clamp, up2_o, up2_s, up2_i, cpV_o, cpV_i, e19, e20, e22]
      refine fs_callv (pc2 := 193) rfl rfl rfl rfl ⟨rfl, rfl⟩ (Nat.le_of_ble_eq_true rfl) (Nat.le_of_ble_eq_true rfl) (Nat.le_of_ble_eq_true rfl) (fs_rcv rfl (by assumption)) (m_leaveNow hm hM hh hk hT) (fun v9 sh9 V9 n9 hp9 => ?_)
      obtain ⟨ea9, eb9, ec9, hM2, kp2⟩ := hp9
      cases ea9
      obtain rfl := eb9.symm
      obtain rfl := ec9.symm
      try simp (disch := omega) only [nI_lit, pk_mul, nI_add, pk_sub, pk_rem4, nI_clamp, up2_o, up2_s, up2_i, cpV_o, cpV_i, e19, e20, e22]
      refine fs_ret rfl rfl ?_
      refine hP _ _ _ _ ⟨rfl, rfl, rfl, ?_, kp.trans kp2⟩
      simp only [ho_rd, Bool.false_eq_true, if_false]
      rw [ho_leave_gt (H := H) (k := k) (y := H.2.1 k) rfl rfl]
      exact hM2
    · have k156 : gl + zs.length ≤ D := c_le h156 rfl rfl
      refine fs_aload_n (pc2 := 160) rfl rfl rfl rfl ?_
      refine fs_getr (pc2 := 163) rfl rfl rfl (by assumption) rfl ?_
      refine fs_iload_n (pc2 := 164) rfl rfl rfl rfl ?_
      try simp (disch := omega) only [nI_lit, pk_mul, nI_add, pk_sub, pk_rem4, nI_clamp, up2_o, up2_s, up2_i, cpV_o, cpV_i, e19, e20, e22]
      refine fs_iald (pc2 := 165) rfl rfl rfl (by assumption) (vp_in_nI (by omega) (by decide)) ?_
      refine fs_iload (pc2 := 167) rfl rfl rfl rfl ?_
      refine fs_iadd (pc2 := 168) rfl rfl rfl ?_
      refine fs_aload_n (pc2 := 169) rfl rfl rfl rfl ?_
      refine fs_getr (pc2 := 172) rfl rfl rfl (by assumption) rfl ?_
      refine fs_iload_n (pc2 := 173) rfl rfl rfl rfl ?_
      try simp (disch := omega) only [nI_lit, pk_mul, nI_add, pk_sub, pk_rem4, nI_clamp, up2_o, up2_s, up2_i, cpV_o, cpV_i, e19, e20, e22]
      refine fs_iald (pc2 := 174) rfl rfl rfl (by assumption) (vp_in_nI (by omega) (by decide)) ?_
      try simp (disch := omega) only [nI_lit, pk_mul, nI_add, pk_sub, pk_rem4, nI_clamp, up2_o, up2_s, up2_i, cpV_o, cpV_i, e19, e20, e22]
      refine fs_icmp_ne (pc2 := 177) rfl rfl rfl (fun h174 => ?_) (fun h174 => ?_)
      · have k174 : gl + zs.length ≠ D := c_ne h174 rfl rfl
        refine fs_iconst (pc2 := 195) rfl rfl rfl ?_
        refine fs_istore (pc2 := 197) rfl rfl rfl (Nat.le_of_ble_eq_true rfl) ?_
        try simp (disch := omega) only [nI_lit, pk_mul, nI_add, pk_sub, pk_rem4, nI_clamp, up2_o, up2_s, up2_i, cpV_o, cpV_i]
        have l0 := loop k156 (by omega) zs.length 0 (by omega)
        rw [cpV_0] at l0
        exact l0
      · have k174 : gl + zs.length = D := c_eq h174 rfl rfl
        refine fs_aload_n (pc2 := 178) rfl rfl rfl rfl ?_
        refine fs_getr (pc2 := 181) rfl rfl rfl (by assumption) rfl ?_
        refine fs_iload_n (pc2 := 182) rfl rfl rfl rfl ?_
        try simp (disch := omega) only [nI_lit, pk_mul, nI_add, pk_sub, pk_rem4, nI_clamp, up2_o, up2_s, up2_i, cpV_o, cpV_i, e19, e20, e22]
        refine fs_iald (pc2 := 183) rfl rfl rfl (by assumption) (vp_in_nI (by omega) (by decide)) ?_
        refine fs_iconst (pc2 := 184) rfl rfl rfl ?_
        try simp (disch := omega) only [nI_lit, pk_mul, nI_add, pk_sub, pk_rem4, nI_clamp, up2_o, up2_s, up2_i, cpV_o, cpV_i, e19, e20, e22]
        refine fs_icmp_ne (pc2 := 187) rfl rfl rfl (fun h184 => ?_) (fun h184 => ?_)
        · have k184 : rl ≠ 4 := c_ne (b := 4) h184 rfl rfl
          refine fs_iconst (pc2 := 195) rfl rfl rfl ?_
          refine fs_istore (pc2 := 197) rfl rfl rfl (Nat.le_of_ble_eq_true rfl) ?_
          try simp (disch := omega) only [nI_lit, pk_mul, nI_add, pk_sub, pk_rem4, nI_clamp, up2_o, up2_s, up2_i, cpV_o, cpV_i]
          have l0 := loop k156 (by omega) zs.length 0 (by omega)
          rw [cpV_0] at l0
          exact l0
        · have k184 : rl = 4 := c_eq (b := 4) h184 rfl rfl
          have er : ch_read2 (H.2.1 k) D zs = (false, ((H.2.1 k).1, (H.2.1 k).2.1, (H.2.1 k).2.2.1, (H.2.1 k).2.2.2.1, (H.2.1 k).2.2.2.2 ++ zs)) := by
            unfold ch_read2 ch_keep
            rw [← hgl, if_neg (by omega), if_neg (by omega), if_pos (by rw [← hrl]; exact k184)]
          rw [er] at hP
          refine fs_aload_n (pc2 := 188) rfl rfl rfl rfl ?_
          refine fs_iload_n (pc2 := 189) rfl rfl rfl rfl ?_
          refine fs_iload_n (pc2 := 190) rfl rfl rfl rfl ?_
          try simp (disch := omega) only [nI_lit, pk_mul, nI_add, pk_sub, pk_rem4, nI_clamp, up2_o, up2_s, up2_i, cpV_o, cpV_i, e19, e20, e22]
          refine fs_callv (pc2 := 193) rfl rfl rfl rfl ⟨rfl, rfl⟩ (Nat.le_of_ble_eq_true rfl) (Nat.le_of_ble_eq_true rfl) (Nat.le_of_ble_eq_true rfl) (fs_rcv rfl (by assumption)) (m_leaveNow hm hM hh hk hT) (fun v9 sh9 V9 n9 hp9 => ?_)
          obtain ⟨ea9, eb9, ec9, hM2, kp2⟩ := hp9
          cases ea9
          obtain rfl := eb9.symm
          obtain rfl := ec9.symm
          try simp (disch := omega) only [nI_lit, pk_mul, nI_add, pk_sub, pk_rem4, nI_clamp, up2_o, up2_s, up2_i, cpV_o, cpV_i, e19, e20, e22]
          refine fs_ret rfl rfl ?_
          refine hP _ _ _ _ ⟨rfl, rfl, rfl, ?_, kp.trans kp2⟩
          simp only [ho_rd, Bool.false_eq_true, if_false]
          rw [ho_leave_gt (H := H) (k := k) (y := ((H.2.1 k).1, (H.2.1 k).2.1, (H.2.1 k).2.2.1, (H.2.1 k).2.2.2.1, (H.2.1 k).2.2.2.2 ++ zs)) rfl rfl]
          exact hM2
set_option maxRecDepth 100000 in
set_option maxHeartbeats 4000000 in
theorem m_segment (hm : isMo sh mb) (hM : Mo V mb T S (va_up HH h H)) (hh : h < 2) (hk : k < 4) {G : List Nat} (hG : ML (V (mb + 40)) (160 * h) G) (l4 : 4 ≤ G.length) (l128 : G.length ≤ 128) (hmtu : (H.2.1 k).1 3 ≤ 100) (hdue : ∀ D, (H.2.1 k).2.1 = some D → D ≤ 100) (hno : (H.2.1 k).2.1 = none → (H.2.1 k).2.2.2.2 = []) (hT : ∀ i, i < 2 → T i < 2048) : fl_M cy z0 ext (d + 4) m_X7_segment [.ref (z0 + mb), .int (nI h), .int (nI (4 * h + k)), .int (nI (160 * h + 4)), .int (nI (G.length - 4))] sh V n (fun v sh' V' n' => v = none ∧ sh' = sh ∧ n' = n ∧ Mo V' mb (fun i => T i + 1) S (va_up HH h (ho_rd H k (ch_read (H.2.1 k) G))) ∧ KP mb V V') := by
  have m0 := hm.1
  have a7 : sh (mb + 7) = some (.inl (1, 8, none)) := hm.2 6 (1, 8) rfl
  have a8 : sh (mb + 8) = some (.inl (1, 8, none)) := hm.2 7 (1, 8) rfl
  have a9 : sh (mb + 9) = some (.inl (1, 8, none)) := hm.2 8 (1, 8) rfl
  have a19 : sh (mb + 19) = some (.inl (1, 8, none)) := hm.2 18 (1, 8) rfl
  have a20 : sh (mb + 20) = some (.inl (1, 8, none)) := hm.2 19 (1, 8) rfl
  have a21 : sh (mb + 21) = some (.inl (1, 1024, none)) := hm.2 20 (1, 1024) rfl
  have a22 : sh (mb + 22) = some (.inl (1, 8, none)) := hm.2 21 (1, 8) rfl
  have a23 : sh (mb + 23) = some (.inl (1, 32, none)) := hm.2 22 (1, 32) rfl
  have a24 : sh (mb + 24) = some (.inl (1, 4096, none)) := hm.2 23 (1, 4096) rfl
  have a40 : sh (mb + 40) = some (.inl (1, 320, none)) := hm.2 39 (1, 320) rfl
  have hC := (hM.host hh).2.2.2.2.2.2 k hk
  obtain ⟨e9, l9⟩ := hC.num (5, 9) (by decide)
  obtain ⟨e8, l8⟩ := hC.num (4, 8) (by decide)
  obtain ⟨e7, l7⟩ := hC.num (3, 7) (by decide)
  dsimp only at e9 l9 e8 l8 e7 l7
  have e19 := hC.2.2.1
  obtain ⟨y1, hy1⟩ : ∃ y1 : Ch, y1 = (va_up (H.2.1 k).1 5 ((H.2.1 k).1 5 - 1), (H.2.1 k).2) := ⟨_, rfl⟩
  have hC1 : MC (up2 V (mb + 9) (4 * h + k) (nI ((H.2.1 k).1 5 - 1))) mb (4 * h + k) y1 := by rw [hy1]; exact hC.pI (5, 9) (by decide) (by omega)
  have hF1 : FM mb (4 * h + k) V (up2 V (mb + 9) (4 * h + k) (nI ((H.2.1 k).1 5 - 1))) := FM.refl.up (j := 9) (by simp [own])
  have hM1 := hM.pC hh hk hF1 hC1
  have kp1 : KP mb V (up2 V (mb + 9) (4 * h + k) (nI ((H.2.1 k).1 5 - 1))) := KP.refl.up (by decide)
  have lg : (nI (160 * h + 4)) = nI (160 * h + 4) := rfl
  have rd0 : (H.2.1 k).1 5 = 0 ∨ G.length = 4 ∨ (H.2.1 k).1 4 + 4 < G.length → ch_read (H.2.1 k) G = (false, H.2.1 k) := fun q => by unfold ch_read; rw [if_pos q]
  have rdS : ∀ D, (H.2.1 k).2.1 = some D → ¬ ((H.2.1 k).1 5 = 0 ∨ G.length = 4 ∨ (H.2.1 k).1 4 + 4 < G.length) → ch_read (H.2.1 k) G = ch_read2 y1 D (G.drop 4) := fun D e q => by unfold ch_read; rw [if_neg q, e, hy1]
  have rdN : (H.2.1 k).2.1 = none → ¬ ((H.2.1 k).1 5 = 0 ∨ G.length = 4 ∨ (H.2.1 k).1 4 + 4 < G.length) → ch_read (H.2.1 k) G = if G.length < 6 ∨ (H.2.1 k).1 3 < num2 G 4 then (false, y1) else ch_read2 (y1.1, some (num2 G 4), y1.2.2) (num2 G 4) (G.drop 6) := fun e q => by unfold ch_read; rw [if_neg q, e, hy1]
  cases hdu : (H.2.1 k).2.1 with
  | some D =>
    rw [hdu] at e19
    rw [show dueI (some D) = nI D from rfl] at e19
    have ld := hdue D hdu
    have el : (G.drop 4).length = G.length - 4 := by simp
    refine fs_body rfl rfl (fun Ret hP => ?_)
    refine fs_aload_n (pc2 := 1) rfl rfl rfl rfl ?_
    refine fs_getr (pc2 := 4) rfl rfl rfl (by assumption) rfl ?_
    refine fs_iload_n (pc2 := 5) rfl rfl rfl rfl ?_
    first | simp (disch := omega) only [nI_lit, pk_mul, nI_add, pk_sub, pk_rem4, nI_clamp, up2_o, up2_s, up2_i, cpV_o, cpV_i, e9, e8, e7, e19] | simp (disch := omega) only [nI_lit, pk_mul, nI_add, pk_sub, pk_rem4, nI_clamp, up2_o, up2_s, up2_i, cpV_o, cpV_i, e9, e8, e7] | skip
    refine fs_iald (pc2 := 6) rfl rfl rfl (by assumption) (vp_in_nI (by omega) (by decide)) ?_
    first | simp (disch := omega) only [nI_lit, pk_mul, nI_add, pk_sub, pk_rem4, nI_clamp, up2_o, up2_s, up2_i, cpV_o, cpV_i, e9, e8, e7, e19] | simp (disch := omega) only [nI_lit, pk_mul, nI_add, pk_sub, pk_rem4, nI_clamp, up2_o, up2_s, up2_i, cpV_o, cpV_i, e9, e8, e7] | skip
    refine fs_if_eq (pc2 := 9) rfl rfl rfl (fun h6 => ?_) (fun h6 => ?_)
    · have k6 : (H.2.1 k).1 5 = 0 := c_eq (b := 0) h6 rfl rfl
      rw [rd0 (Or.inl k6)] at hP
      refine fs_aload_n (pc2 := 26) rfl rfl rfl rfl ?_
      refine fs_iload_n (pc2 := 27) rfl rfl rfl rfl ?_
      refine fs_iload_n (pc2 := 28) rfl rfl rfl rfl ?_
      first | simp (disch := omega) only [nI_lit, pk_mul, nI_add, pk_sub, pk_rem4, nI_clamp, up2_o, up2_s, up2_i, cpV_o, cpV_i, e9, e8, e7, e19] | simp (disch := omega) only [nI_lit, pk_mul, nI_add, pk_sub, pk_rem4, nI_clamp, up2_o, up2_s, up2_i, cpV_o, cpV_i, e9, e8, e7] | skip
      refine fs_callv (pc2 := 31) rfl rfl rfl rfl ⟨rfl, rfl⟩ (Nat.le_of_ble_eq_true rfl) (Nat.le_of_ble_eq_true rfl) (Nat.le_of_ble_eq_true rfl) (fs_rcv rfl (by assumption)) (m_leaveNow hm hM hh hk hT) (fun v9 sh9 V9 n9 hp9 => ?_)
      obtain ⟨ea9, eb9, ec9, hM2, kp2⟩ := hp9
      cases ea9
      obtain rfl := eb9.symm
      obtain rfl := ec9.symm
      first | simp (disch := omega) only [nI_lit, pk_mul, nI_add, pk_sub, pk_rem4, nI_clamp, up2_o, up2_s, up2_i, cpV_o, cpV_i, e9, e8, e7, e19] | simp (disch := omega) only [nI_lit, pk_mul, nI_add, pk_sub, pk_rem4, nI_clamp, up2_o, up2_s, up2_i, cpV_o, cpV_i, e9, e8, e7] | skip
      refine fs_ret rfl rfl ?_
      refine hP _ _ _ _ ⟨rfl, rfl, rfl, ?_, kp2⟩
      rw [show ho_rd H k (false, H.2.1 k) = ho_leave (hoC H k (H.2.1 k)) k from rfl, hoC_id]
      exact hM2
    · have k6 : (H.2.1 k).1 5 ≠ 0 := c_ne (b := 0) h6 rfl rfl
      refine fs_iload (pc2 := 11) rfl rfl rfl rfl ?_
      first | simp (disch := omega) only [nI_lit, pk_mul, nI_add, pk_sub, pk_rem4, nI_clamp, up2_o, up2_s, up2_i, cpV_o, cpV_i, e9, e8, e7, e19] | simp (disch := omega) only [nI_lit, pk_mul, nI_add, pk_sub, pk_rem4, nI_clamp, up2_o, up2_s, up2_i, cpV_o, cpV_i, e9, e8, e7] | skip
      refine fs_if_eq (pc2 := 14) rfl rfl rfl (fun h11 => ?_) (fun h11 => ?_)
      · have k11 : G.length - 4 = 0 := c_eq (b := 0) h11 rfl rfl
        rw [rd0 (by omega)] at hP
        refine fs_aload_n (pc2 := 26) rfl rfl rfl rfl ?_
        refine fs_iload_n (pc2 := 27) rfl rfl rfl rfl ?_
        refine fs_iload_n (pc2 := 28) rfl rfl rfl rfl ?_
        first | simp (disch := omega) only [nI_lit, pk_mul, nI_add, pk_sub, pk_rem4, nI_clamp, up2_o, up2_s, up2_i, cpV_o, cpV_i, e9, e8, e7, e19] | simp (disch := omega) only [nI_lit, pk_mul, nI_add, pk_sub, pk_rem4, nI_clamp, up2_o, up2_s, up2_i, cpV_o, cpV_i, e9, e8, e7] | skip
        refine fs_callv (pc2 := 31) rfl rfl rfl rfl ⟨rfl, rfl⟩ (Nat.le_of_ble_eq_true rfl) (Nat.le_of_ble_eq_true rfl) (Nat.le_of_ble_eq_true rfl) (fs_rcv rfl (by assumption)) (m_leaveNow hm hM hh hk hT) (fun v9 sh9 V9 n9 hp9 => ?_)
        obtain ⟨ea9, eb9, ec9, hM2, kp2⟩ := hp9
        cases ea9
        obtain rfl := eb9.symm
        obtain rfl := ec9.symm
        first | simp (disch := omega) only [nI_lit, pk_mul, nI_add, pk_sub, pk_rem4, nI_clamp, up2_o, up2_s, up2_i, cpV_o, cpV_i, e9, e8, e7, e19] | simp (disch := omega) only [nI_lit, pk_mul, nI_add, pk_sub, pk_rem4, nI_clamp, up2_o, up2_s, up2_i, cpV_o, cpV_i, e9, e8, e7] | skip
        refine fs_ret rfl rfl ?_
        refine hP _ _ _ _ ⟨rfl, rfl, rfl, ?_, kp2⟩
        rw [show ho_rd H k (false, H.2.1 k) = ho_leave (hoC H k (H.2.1 k)) k from rfl, hoC_id]
        exact hM2
      · have k11 : G.length - 4 ≠ 0 := c_ne (b := 0) h11 rfl rfl
        refine fs_iload (pc2 := 16) rfl rfl rfl rfl ?_
        refine fs_aload_n (pc2 := 17) rfl rfl rfl rfl ?_
        refine fs_getr (pc2 := 20) rfl rfl rfl (by assumption) rfl ?_
        refine fs_iload_n (pc2 := 21) rfl rfl rfl rfl ?_
        first | simp (disch := omega) only [nI_lit, pk_mul, nI_add, pk_sub, pk_rem4, nI_clamp, up2_o, up2_s, up2_i, cpV_o, cpV_i, e9, e8, e7, e19] | simp (disch := omega) only [nI_lit, pk_mul, nI_add, pk_sub, pk_rem4, nI_clamp, up2_o, up2_s, up2_i, cpV_o, cpV_i, e9, e8, e7] | skip
        refine fs_iald (pc2 := 22) rfl rfl rfl (by assumption) (vp_in_nI (by omega) (by decide)) ?_
        first | simp (disch := omega) only [nI_lit, pk_mul, nI_add, pk_sub, pk_rem4, nI_clamp, up2_o, up2_s, up2_i, cpV_o, cpV_i, e9, e8, e7, e19] | simp (disch := omega) only [nI_lit, pk_mul, nI_add, pk_sub, pk_rem4, nI_clamp, up2_o, up2_s, up2_i, cpV_o, cpV_i, e9, e8, e7] | skip
        refine fs_icmp_le (pc2 := 25) rfl rfl rfl (fun h22 => ?_) (fun h22 => ?_)
        · have k22 : G.length - 4 ≤ (H.2.1 k).1 4 := c_le h22 rfl rfl
          have rS := rdS D hdu (by omega)
          rw [rS] at hP
          refine fs_aload_n (pc2 := 33) rfl rfl rfl rfl ?_
          refine fs_getr (pc2 := 36) rfl rfl rfl (by assumption) rfl ?_
          refine fs_iload_n (pc2 := 37) rfl rfl rfl rfl ?_
          refine fs_dup2 (pc2 := 38) rfl rfl rfl ?_
          first | simp (disch := omega) only [nI_lit, pk_mul, nI_add, pk_sub, pk_rem4, nI_clamp, up2_o, up2_s, up2_i, cpV_o, cpV_i, e9, e8, e7, e19] | simp (disch := omega) only [nI_lit, pk_mul, nI_add, pk_sub, pk_rem4, nI_clamp, up2_o, up2_s, up2_i, cpV_o, cpV_i, e9, e8, e7] | skip
          refine fs_iald (pc2 := 39) rfl rfl rfl (by assumption) (vp_in_nI (by omega) (by decide)) ?_
          refine fs_iconst (pc2 := 40) rfl rfl rfl ?_
          refine fs_isub (pc2 := 41) rfl rfl rfl ?_
          first | simp (disch := omega) only [nI_lit, pk_mul, nI_add, pk_sub, pk_rem4, nI_clamp, up2_o, up2_s, up2_i, cpV_o, cpV_i, e9, e8, e7, e19] | simp (disch := omega) only [nI_lit, pk_mul, nI_add, pk_sub, pk_rem4, nI_clamp, up2_o, up2_s, up2_i, cpV_o, cpV_i, e9, e8, e7] | skip
          refine fs_iast (pc2 := 42) rfl rfl rfl (by assumption) (vp_in_nI (by omega) (by decide)) ?_
          refine fs_iload_n (pc2 := 43) rfl rfl rfl rfl ?_
          refine fs_istore (pc2 := 45) rfl rfl rfl (Nat.le_of_ble_eq_true rfl) ?_
          refine fs_iload (pc2 := 47) rfl rfl rfl rfl ?_
          refine fs_istore (pc2 := 49) rfl rfl rfl (Nat.le_of_ble_eq_true rfl) ?_
          refine fs_aload_n (pc2 := 50) rfl rfl rfl rfl ?_
          refine fs_getr (pc2 := 53) rfl rfl rfl (by assumption) rfl ?_
          refine fs_iload_n (pc2 := 54) rfl rfl rfl rfl ?_
          first | simp (disch := omega) only [nI_lit, pk_mul, nI_add, pk_sub, pk_rem4, nI_clamp, up2_o, up2_s, up2_i, cpV_o, cpV_i, e9, e8, e7, e19] | simp (disch := omega) only [nI_lit, pk_mul, nI_add, pk_sub, pk_rem4, nI_clamp, up2_o, up2_s, up2_i, cpV_o, cpV_i, e9, e8, e7] | skip
          refine fs_iald (pc2 := 55) rfl rfl rfl (by assumption) (vp_in_nI (by omega) (by decide)) ?_
          first | simp (disch := omega) only [nI_lit, pk_mul, nI_add, pk_sub, pk_rem4, nI_clamp, up2_o, up2_s, up2_i, cpV_o, cpV_i, e9, e8, e7, e19] | simp (disch := omega) only [nI_lit, pk_mul, nI_add, pk_sub, pk_rem4, nI_clamp, up2_o, up2_s, up2_i, cpV_o, cpV_i, e9, e8, e7] | skip
          refine fs_if_ge (pc2 := 58) rfl rfl rfl (fun h55 => ?_) (fun h55 => ?_)
          · try simp (disch := omega) only [nI_lit, pk_mul, nI_add, pk_sub, pk_rem4, nI_clamp, up2_o, up2_s, up2_i, cpV_o, cpV_i]
            rw [← el]
            refine m_seg141 hm hM1 hh hk kp1 (D := D) (zs := G.drop 4) (at0 := 160 * h + 4) (by show (va_up H.2.1 k y1 k).2.1 = some D; rw [va_up_self, hy1]; exact hdu) (hdue D hdu) ?_ (by simp; omega) (by simp; omega) hT (Or.inl rfl) (fun v sh' V' n' hq => hP v sh' V' n' ?_)
            · intro j b hj
              rw [List.getElem?_drop] at hj
              have := hG (4 + j) b hj
              rw [up2_o (by omega), show 160 * h + 4 + j = 160 * h + (4 + j) by omega]
              exact this
            · obtain ⟨r1, r2, r3, r4, r5⟩ := hq
              refine ⟨r1, r2, r3, ?_, r5⟩
              unfold ho_rd at r4 ⊢
              simp only [hoC, va_up2, va_up_self] at r4 ⊢
              exact r4
          · exact absurd h55 (nI_nlt (b := 0) (by omega) (by have := hdue D hdu; omega))
        · have k22 : (H.2.1 k).1 4 < G.length - 4 := c_nle h22 rfl rfl
          rw [rd0 (by omega)] at hP
          refine fs_aload_n (pc2 := 26) rfl rfl rfl rfl ?_
          refine fs_iload_n (pc2 := 27) rfl rfl rfl rfl ?_
          refine fs_iload_n (pc2 := 28) rfl rfl rfl rfl ?_
          first | simp (disch := omega) only [nI_lit, pk_mul, nI_add, pk_sub, pk_rem4, nI_clamp, up2_o, up2_s, up2_i, cpV_o, cpV_i, e9, e8, e7, e19] | simp (disch := omega) only [nI_lit, pk_mul, nI_add, pk_sub, pk_rem4, nI_clamp, up2_o, up2_s, up2_i, cpV_o, cpV_i, e9, e8, e7] | skip
          refine fs_callv (pc2 := 31) rfl rfl rfl rfl ⟨rfl, rfl⟩ (Nat.le_of_ble_eq_true rfl) (Nat.le_of_ble_eq_true rfl) (Nat.le_of_ble_eq_true rfl) (fs_rcv rfl (by assumption)) (m_leaveNow hm hM hh hk hT) (fun v9 sh9 V9 n9 hp9 => ?_)
          obtain ⟨ea9, eb9, ec9, hM2, kp2⟩ := hp9
          cases ea9
          obtain rfl := eb9.symm
          obtain rfl := ec9.symm
          first | simp (disch := omega) only [nI_lit, pk_mul, nI_add, pk_sub, pk_rem4, nI_clamp, up2_o, up2_s, up2_i, cpV_o, cpV_i, e9, e8, e7, e19] | simp (disch := omega) only [nI_lit, pk_mul, nI_add, pk_sub, pk_rem4, nI_clamp, up2_o, up2_s, up2_i, cpV_o, cpV_i, e9, e8, e7] | skip
          refine fs_ret rfl rfl ?_
          refine hP _ _ _ _ ⟨rfl, rfl, rfl, ?_, kp2⟩
          rw [show ho_rd H k (false, H.2.1 k) = ho_leave (hoC H k (H.2.1 k)) k from rfl, hoC_id]
          exact hM2
  | none =>
    rw [hdu] at e19
    rw [show dueI none = -1 from rfl] at e19
    refine fs_body rfl rfl (fun Ret hP => ?_)
    refine fs_aload_n (pc2 := 1) rfl rfl rfl rfl ?_
    refine fs_getr (pc2 := 4) rfl rfl rfl (by assumption) rfl ?_
    refine fs_iload_n (pc2 := 5) rfl rfl rfl rfl ?_
    first | simp (disch := omega) only [nI_lit, pk_mul, nI_add, pk_sub, pk_rem4, nI_clamp, up2_o, up2_s, up2_i, cpV_o, cpV_i, e9, e8, e7, e19] | simp (disch := omega) only [nI_lit, pk_mul, nI_add, pk_sub, pk_rem4, nI_clamp, up2_o, up2_s, up2_i, cpV_o, cpV_i, e9, e8, e7] | skip
    refine fs_iald (pc2 := 6) rfl rfl rfl (by assumption) (vp_in_nI (by omega) (by decide)) ?_
    first | simp (disch := omega) only [nI_lit, pk_mul, nI_add, pk_sub, pk_rem4, nI_clamp, up2_o, up2_s, up2_i, cpV_o, cpV_i, e9, e8, e7, e19] | simp (disch := omega) only [nI_lit, pk_mul, nI_add, pk_sub, pk_rem4, nI_clamp, up2_o, up2_s, up2_i, cpV_o, cpV_i, e9, e8, e7] | skip
    refine fs_if_eq (pc2 := 9) rfl rfl rfl (fun h6 => ?_) (fun h6 => ?_)
    · have k6 : (H.2.1 k).1 5 = 0 := c_eq (b := 0) h6 rfl rfl
      rw [rd0 (Or.inl k6)] at hP
      refine fs_aload_n (pc2 := 26) rfl rfl rfl rfl ?_
      refine fs_iload_n (pc2 := 27) rfl rfl rfl rfl ?_
      refine fs_iload_n (pc2 := 28) rfl rfl rfl rfl ?_
      first | simp (disch := omega) only [nI_lit, pk_mul, nI_add, pk_sub, pk_rem4, nI_clamp, up2_o, up2_s, up2_i, cpV_o, cpV_i, e9, e8, e7, e19] | simp (disch := omega) only [nI_lit, pk_mul, nI_add, pk_sub, pk_rem4, nI_clamp, up2_o, up2_s, up2_i, cpV_o, cpV_i, e9, e8, e7] | skip
      refine fs_callv (pc2 := 31) rfl rfl rfl rfl ⟨rfl, rfl⟩ (Nat.le_of_ble_eq_true rfl) (Nat.le_of_ble_eq_true rfl) (Nat.le_of_ble_eq_true rfl) (fs_rcv rfl (by assumption)) (m_leaveNow hm hM hh hk hT) (fun v9 sh9 V9 n9 hp9 => ?_)
      obtain ⟨ea9, eb9, ec9, hM2, kp2⟩ := hp9
      cases ea9
      obtain rfl := eb9.symm
      obtain rfl := ec9.symm
      try simp (disch := omega) only [nI_lit, pk_mul, nI_add, pk_sub, pk_rem4, nI_clamp, up2_o, up2_s, up2_i, cpV_o, cpV_i, e9, e8, e7]
      refine fs_ret rfl rfl ?_
      refine hP _ _ _ _ ⟨rfl, rfl, rfl, ?_, kp2⟩
      rw [show ho_rd H k (false, H.2.1 k) = ho_leave (hoC H k (H.2.1 k)) k from rfl, hoC_id]
      exact hM2
    · have k6 : (H.2.1 k).1 5 ≠ 0 := c_ne (b := 0) h6 rfl rfl
      refine fs_iload (pc2 := 11) rfl rfl rfl rfl ?_
      first | simp (disch := omega) only [nI_lit, pk_mul, nI_add, pk_sub, pk_rem4, nI_clamp, up2_o, up2_s, up2_i, cpV_o, cpV_i, e9, e8, e7, e19] | simp (disch := omega) only [nI_lit, pk_mul, nI_add, pk_sub, pk_rem4, nI_clamp, up2_o, up2_s, up2_i, cpV_o, cpV_i, e9, e8, e7] | skip
      refine fs_if_eq (pc2 := 14) rfl rfl rfl (fun h11 => ?_) (fun h11 => ?_)
      · have k11 : G.length - 4 = 0 := c_eq (b := 0) h11 rfl rfl
        rw [rd0 (by omega)] at hP
        refine fs_aload_n (pc2 := 26) rfl rfl rfl rfl ?_
        refine fs_iload_n (pc2 := 27) rfl rfl rfl rfl ?_
        refine fs_iload_n (pc2 := 28) rfl rfl rfl rfl ?_
        first | simp (disch := omega) only [nI_lit, pk_mul, nI_add, pk_sub, pk_rem4, nI_clamp, up2_o, up2_s, up2_i, cpV_o, cpV_i, e9, e8, e7, e19] | simp (disch := omega) only [nI_lit, pk_mul, nI_add, pk_sub, pk_rem4, nI_clamp, up2_o, up2_s, up2_i, cpV_o, cpV_i, e9, e8, e7] | skip
        refine fs_callv (pc2 := 31) rfl rfl rfl rfl ⟨rfl, rfl⟩ (Nat.le_of_ble_eq_true rfl) (Nat.le_of_ble_eq_true rfl) (Nat.le_of_ble_eq_true rfl) (fs_rcv rfl (by assumption)) (m_leaveNow hm hM hh hk hT) (fun v9 sh9 V9 n9 hp9 => ?_)
        obtain ⟨ea9, eb9, ec9, hM2, kp2⟩ := hp9
        cases ea9
        obtain rfl := eb9.symm
        obtain rfl := ec9.symm
        try simp (disch := omega) only [nI_lit, pk_mul, nI_add, pk_sub, pk_rem4, nI_clamp, up2_o, up2_s, up2_i, cpV_o, cpV_i, e9, e8, e7]
        refine fs_ret rfl rfl ?_
        refine hP _ _ _ _ ⟨rfl, rfl, rfl, ?_, kp2⟩
        rw [show ho_rd H k (false, H.2.1 k) = ho_leave (hoC H k (H.2.1 k)) k from rfl, hoC_id]
        exact hM2
      · have k11 : G.length - 4 ≠ 0 := c_ne (b := 0) h11 rfl rfl
        refine fs_iload (pc2 := 16) rfl rfl rfl rfl ?_
        refine fs_aload_n (pc2 := 17) rfl rfl rfl rfl ?_
        refine fs_getr (pc2 := 20) rfl rfl rfl (by assumption) rfl ?_
        refine fs_iload_n (pc2 := 21) rfl rfl rfl rfl ?_
        first | simp (disch := omega) only [nI_lit, pk_mul, nI_add, pk_sub, pk_rem4, nI_clamp, up2_o, up2_s, up2_i, cpV_o, cpV_i, e9, e8, e7, e19] | simp (disch := omega) only [nI_lit, pk_mul, nI_add, pk_sub, pk_rem4, nI_clamp, up2_o, up2_s, up2_i, cpV_o, cpV_i, e9, e8, e7] | skip
        refine fs_iald (pc2 := 22) rfl rfl rfl (by assumption) (vp_in_nI (by omega) (by decide)) ?_
        first | simp (disch := omega) only [nI_lit, pk_mul, nI_add, pk_sub, pk_rem4, nI_clamp, up2_o, up2_s, up2_i, cpV_o, cpV_i, e9, e8, e7, e19] | simp (disch := omega) only [nI_lit, pk_mul, nI_add, pk_sub, pk_rem4, nI_clamp, up2_o, up2_s, up2_i, cpV_o, cpV_i, e9, e8, e7] | skip
        refine fs_icmp_le (pc2 := 25) rfl rfl rfl (fun h22 => ?_) (fun h22 => ?_)
        · have k22 : G.length - 4 ≤ (H.2.1 k).1 4 := c_le h22 rfl rfl
          have rN := rdN hdu (by omega)
          refine fs_aload_n (pc2 := 33) rfl rfl rfl rfl ?_
          refine fs_getr (pc2 := 36) rfl rfl rfl (by assumption) rfl ?_
          refine fs_iload_n (pc2 := 37) rfl rfl rfl rfl ?_
          refine fs_dup2 (pc2 := 38) rfl rfl rfl ?_
          first | simp (disch := omega) only [nI_lit, pk_mul, nI_add, pk_sub, pk_rem4, nI_clamp, up2_o, up2_s, up2_i, cpV_o, cpV_i, e9, e8, e7, e19] | simp (disch := omega) only [nI_lit, pk_mul, nI_add, pk_sub, pk_rem4, nI_clamp, up2_o, up2_s, up2_i, cpV_o, cpV_i, e9, e8, e7] | skip
          refine fs_iald (pc2 := 39) rfl rfl rfl (by assumption) (vp_in_nI (by omega) (by decide)) ?_
          refine fs_iconst (pc2 := 40) rfl rfl rfl ?_
          refine fs_isub (pc2 := 41) rfl rfl rfl ?_
          first | simp (disch := omega) only [nI_lit, pk_mul, nI_add, pk_sub, pk_rem4, nI_clamp, up2_o, up2_s, up2_i, cpV_o, cpV_i, e9, e8, e7, e19] | simp (disch := omega) only [nI_lit, pk_mul, nI_add, pk_sub, pk_rem4, nI_clamp, up2_o, up2_s, up2_i, cpV_o, cpV_i, e9, e8, e7] | skip
          refine fs_iast (pc2 := 42) rfl rfl rfl (by assumption) (vp_in_nI (by omega) (by decide)) ?_
          refine fs_iload_n (pc2 := 43) rfl rfl rfl rfl ?_
          refine fs_istore (pc2 := 45) rfl rfl rfl (Nat.le_of_ble_eq_true rfl) ?_
          refine fs_iload (pc2 := 47) rfl rfl rfl rfl ?_
          refine fs_istore (pc2 := 49) rfl rfl rfl (Nat.le_of_ble_eq_true rfl) ?_
          refine fs_aload_n (pc2 := 50) rfl rfl rfl rfl ?_
          refine fs_getr (pc2 := 53) rfl rfl rfl (by assumption) rfl ?_
          refine fs_iload_n (pc2 := 54) rfl rfl rfl rfl ?_
          first | simp (disch := omega) only [nI_lit, pk_mul, nI_add, pk_sub, pk_rem4, nI_clamp, up2_o, up2_s, up2_i, cpV_o, cpV_i, e9, e8, e7, e19] | simp (disch := omega) only [nI_lit, pk_mul, nI_add, pk_sub, pk_rem4, nI_clamp, up2_o, up2_s, up2_i, cpV_o, cpV_i, e9, e8, e7] | skip
          refine fs_iald (pc2 := 55) rfl rfl rfl (by assumption) (vp_in_nI (by omega) (by decide)) ?_
          first | simp (disch := omega) only [nI_lit, pk_mul, nI_add, pk_sub, pk_rem4, nI_clamp, up2_o, up2_s, up2_i, cpV_o, cpV_i, e9, e8, e7, e19] | simp (disch := omega) only [nI_lit, pk_mul, nI_add, pk_sub, pk_rem4, nI_clamp, up2_o, up2_s, up2_i, cpV_o, cpV_i, e9, e8, e7] | skip
          refine fs_if_ge (pc2 := 58) rfl rfl rfl (fun h55 => ?_) (fun h55 => ?_)
          · exact absurd (by decide) h55
          · refine fs_iload (pc2 := 60) rfl rfl rfl rfl ?_
            refine fs_iconst (pc2 := 61) rfl rfl rfl ?_
            try simp (disch := omega) only [nI_lit, pk_mul, nI_add, pk_sub, pk_rem4, nI_clamp, up2_o, up2_s, up2_i, cpV_o, cpV_i, e9, e8, e7]
            refine fs_icmp_ge (pc2 := 64) rfl rfl rfl (fun h61 => ?_) (fun h61 => ?_)
            · have k61 : 2 ≤ G.length - 4 := c_nlt (b := 2) h61 rfl rfl
              obtain ⟨b1, c1⟩ := hG.at (j := 4) (by omega)
              obtain ⟨b2, c2⟩ := hG.at (j := 5) (by omega)
              have enum : num2 G 4 = G.getD 4 0 + 256 * G.getD 5 0 := by unfold num2; rw [if_pos (by omega)]
              have eor : nI (G.getD 4 0) ||| (nI (G.getD 5 0) <<< (nI 8 &&& nI 31)) = nI (num2 G 4) := by rw [enum]; exact nI_two c1 (by omega)
              have b2b : V (mb + 40) (160 * h + 4 + 1) = nI (G.getD 5 0) := b2
              have lnum : num2 G 4 < 65536 := by omega
              refine fs_aload_n (pc2 := 69) rfl rfl rfl rfl ?_
              refine fs_getr (pc2 := 72) rfl rfl rfl (by assumption) rfl ?_
              refine fs_iload (pc2 := 74) rfl rfl rfl rfl ?_
              first | simp (disch := omega) only [nI_lit, pk_mul, nI_add, pk_sub, pk_rem4, nI_clamp, up2_o, up2_s, up2_i, cpV_o, cpV_i, e9, e8, e7, b1, b2b, eor] | simp (disch := omega) only [nI_lit, pk_mul, nI_add, pk_sub, pk_rem4, nI_clamp, up2_o, up2_s, up2_i, cpV_o, cpV_i, e9, e8, e7] | skip
              refine fs_iald (pc2 := 75) rfl rfl rfl (by assumption) (vp_in_nI (by omega) (by decide)) ?_
              refine fs_aload_n (pc2 := 76) rfl rfl rfl rfl ?_
              refine fs_getr (pc2 := 79) rfl rfl rfl (by assumption) rfl ?_
              refine fs_iload (pc2 := 81) rfl rfl rfl rfl ?_
              refine fs_iconst (pc2 := 82) rfl rfl rfl ?_
              refine fs_iadd (pc2 := 83) rfl rfl rfl ?_
              first | simp (disch := omega) only [nI_lit, pk_mul, nI_add, pk_sub, pk_rem4, nI_clamp, up2_o, up2_s, up2_i, cpV_o, cpV_i, e9, e8, e7, b1, b2b, eor] | simp (disch := omega) only [nI_lit, pk_mul, nI_add, pk_sub, pk_rem4, nI_clamp, up2_o, up2_s, up2_i, cpV_o, cpV_i, e9, e8, e7] | skip
              refine fs_iald (pc2 := 84) rfl rfl rfl (by assumption) (vp_in_nI (by omega) (by decide)) ?_
              refine fs_bipush (pc2 := 86) rfl rfl rfl ?_
              refine fs_ishl (pc2 := 87) rfl rfl rfl ?_
              refine fs_ior (pc2 := 88) rfl rfl rfl ?_
              refine fs_istore (pc2 := 90) rfl rfl rfl (Nat.le_of_ble_eq_true rfl) ?_
              refine fs_iload (pc2 := 92) rfl rfl rfl rfl ?_
              refine fs_iconst (pc2 := 93) rfl rfl rfl ?_
              first | simp (disch := omega) only [nI_lit, pk_mul, nI_add, pk_sub, pk_rem4, nI_clamp, up2_o, up2_s, up2_i, cpV_o, cpV_i, e9, e8, e7, b1, b2b, eor] | simp (disch := omega) only [nI_lit, pk_mul, nI_add, pk_sub, pk_rem4, nI_clamp, up2_o, up2_s, up2_i, cpV_o, cpV_i, e9, e8, e7] | skip
              refine fs_icmp_lt (pc2 := 96) rfl rfl rfl (fun h93 => ?_) (fun h93 => ?_)
              · have := c_lt (b := 2) h93 rfl rfl
                omega
              · refine fs_iload (pc2 := 98) rfl rfl rfl rfl ?_
                refine fs_aload_n (pc2 := 99) rfl rfl rfl rfl ?_
                refine fs_getr (pc2 := 102) rfl rfl rfl (by assumption) rfl ?_
                refine fs_iload_n (pc2 := 103) rfl rfl rfl rfl ?_
                first | simp (disch := omega) only [nI_lit, pk_mul, nI_add, pk_sub, pk_rem4, nI_clamp, up2_o, up2_s, up2_i, cpV_o, cpV_i, e9, e8, e7, b1, b2b, eor] | simp (disch := omega) only [nI_lit, pk_mul, nI_add, pk_sub, pk_rem4, nI_clamp, up2_o, up2_s, up2_i, cpV_o, cpV_i, e9, e8, e7] | skip
                refine fs_iald (pc2 := 104) rfl rfl rfl (by assumption) (vp_in_nI (by omega) (by decide)) ?_
                try simp (disch := omega) only [nI_lit, pk_mul, nI_add, pk_sub, pk_rem4, nI_clamp, up2_o, up2_s, up2_i, cpV_o, cpV_i, e9, e8, e7]
                refine fs_icmp_le (pc2 := 107) rfl rfl rfl (fun h104 => ?_) (fun h104 => ?_)
                · have k104 : num2 G 4 ≤ (H.2.1 k).1 3 := c_le h104 rfl rfl
                  rw [if_neg (by omega)] at rN
                  rw [rN] at hP
                  refine fs_aload_n (pc2 := 115) rfl rfl rfl rfl ?_
                  refine fs_getr (pc2 := 118) rfl rfl rfl (by assumption) rfl ?_
                  refine fs_iload_n (pc2 := 119) rfl rfl rfl rfl ?_
                  refine fs_iload (pc2 := 121) rfl rfl rfl rfl ?_
                  try simp (disch := omega) only [nI_lit, pk_mul, nI_add, pk_sub, pk_rem4, nI_clamp, up2_o, up2_s, up2_i, cpV_o, cpV_i, e9, e8, e7]
                  refine fs_iast (pc2 := 122) rfl rfl rfl (by assumption) (vp_in_nI (by omega) (by decide)) ?_
                  refine fs_aload_n (pc2 := 123) rfl rfl rfl rfl ?_
                  refine fs_getr (pc2 := 126) rfl rfl rfl (by assumption) rfl ?_
                  refine fs_iload_n (pc2 := 127) rfl rfl rfl rfl ?_
                  refine fs_iconst (pc2 := 128) rfl rfl rfl ?_
                  try simp (disch := omega) only [nI_lit, pk_mul, nI_add, pk_sub, pk_rem4, nI_clamp, up2_o, up2_s, up2_i, cpV_o, cpV_i, e9, e8, e7]
                  refine fs_iast (pc2 := 129) rfl rfl rfl (by assumption) (vp_in_nI (by omega) (by decide)) ?_
                  refine fs_iload (pc2 := 131) rfl rfl rfl rfl ?_
                  refine fs_iconst (pc2 := 132) rfl rfl rfl ?_
                  refine fs_iadd (pc2 := 133) rfl rfl rfl ?_
                  refine fs_istore (pc2 := 135) rfl rfl rfl (Nat.le_of_ble_eq_true rfl) ?_
                  refine fs_iload (pc2 := 137) rfl rfl rfl rfl ?_
                  refine fs_iconst (pc2 := 138) rfl rfl rfl ?_
                  refine fs_isub (pc2 := 139) rfl rfl rfl ?_
                  refine fs_istore (pc2 := 141) rfl rfl rfl (Nat.le_of_ble_eq_true rfl) ?_
                  try simp (disch := omega) only [nI_lit, pk_mul, nI_add, pk_sub, pk_rem4, nI_clamp, up2_o, up2_s, up2_i, cpV_o, cpV_i]
                  have hC2 : MC (up2 (up2 (up2 V (mb + 9) (4 * h + k) (nI ((H.2.1 k).1 5 - 1))) (mb + 19) (4 * h + k) (nI (num2 G 4))) (mb + 20) (4 * h + k) (nI 0)) mb (4 * h + k) (y1.1, some (num2 G 4), y1.2.2) := by
                    have e5 : y1.2.2.2.2 = [] := by rw [hy1]; exact hno hdu
                    have := (hC1.pD (some (num2 G 4))).pG0
                    rw [← e5] at this
                    exact this
                  have hM3 := hM.pC hh hk ((hF1.up (j := 19) (by simp [own])).up (j := 20) (by simp [own])) hC2
                  rw [show G.length - 4 - 2 = (G.drop 6).length by simp; omega]
                  refine m_seg141 hm hM3 hh hk ((kp1.up (by decide)).up (by decide)) (D := num2 G 4) (zs := G.drop 6) (at0 := 160 * h + 4 + 2) (by show (va_up H.2.1 k (y1.1, some (num2 G 4), y1.2.2) k).2.1 = _; rw [va_up_self]) (by omega) ?_ (by simp; omega) (by simp; omega) hT (Or.inr ⟨_, rfl⟩) (fun v sh' V' n' hq => hP v sh' V' n' ?_)
                  · intro j b hj
                    rw [List.getElem?_drop] at hj
                    have := hG (6 + j) b hj
                    rw [up2_o (by omega), up2_o (by omega), up2_o (by omega), show 160 * h + 4 + 2 + j = 160 * h + (6 + j) by omega]
                    exact this
                  · obtain ⟨r1, r2, r3, r4, r5⟩ := hq
                    refine ⟨r1, r2, r3, ?_, r5⟩
                    unfold ho_rd at r4 ⊢
                    simp only [hoC, va_up2, va_up_self] at r4 ⊢
                    exact r4
                · have k104 : (H.2.1 k).1 3 < num2 G 4 := c_nle h104 rfl rfl
                  rw [if_pos (by omega)] at rN
                  rw [rN] at hP
                  refine fs_aload_n (pc2 := 108) rfl rfl rfl rfl ?_
                  refine fs_iload_n (pc2 := 109) rfl rfl rfl rfl ?_
                  refine fs_iload_n (pc2 := 110) rfl rfl rfl rfl ?_
                  try simp (disch := omega) only [nI_lit, pk_mul, nI_add, pk_sub, pk_rem4, nI_clamp, up2_o, up2_s, up2_i, cpV_o, cpV_i, e9, e8, e7]
                  refine fs_callv (pc2 := 113) rfl rfl rfl rfl ⟨rfl, rfl⟩ (Nat.le_of_ble_eq_true rfl) (Nat.le_of_ble_eq_true rfl) (Nat.le_of_ble_eq_true rfl) (fs_rcv rfl (by assumption)) (m_leaveNow hm hM1 hh hk hT) (fun v9 sh9 V9 n9 hp9 => ?_)
                  obtain ⟨ea9, eb9, ec9, hM2, kp2⟩ := hp9
                  cases ea9
                  obtain rfl := eb9.symm
                  obtain rfl := ec9.symm
                  try simp (disch := omega) only [nI_lit, pk_mul, nI_add, pk_sub, pk_rem4, nI_clamp, up2_o, up2_s, up2_i, cpV_o, cpV_i, e9, e8, e7]
                  refine fs_ret rfl rfl ?_
                  refine hP _ _ _ _ ⟨rfl, rfl, rfl, ?_, kp1.trans kp2⟩
                  exact hM2
            · have k61 : G.length - 4 < 2 := c_lt (b := 2) h61 rfl rfl
              rw [if_pos (by omega)] at rN
              rw [rN] at hP
              refine fs_iconst (pc2 := 65) rfl rfl rfl ?_
              refine fs_goto rfl rfl ?_
              refine fs_istore (pc2 := 90) rfl rfl rfl (Nat.le_of_ble_eq_true rfl) ?_
              refine fs_iload (pc2 := 92) rfl rfl rfl rfl ?_
              refine fs_iconst (pc2 := 93) rfl rfl rfl ?_
              first | simp (disch := omega) only [nI_lit, pk_mul, nI_add, pk_sub, pk_rem4, nI_clamp, up2_o, up2_s, up2_i, cpV_o, cpV_i, e9, e8, e7, b1, b2b, eor] | simp (disch := omega) only [nI_lit, pk_mul, nI_add, pk_sub, pk_rem4, nI_clamp, up2_o, up2_s, up2_i, cpV_o, cpV_i, e9, e8, e7] | skip
              refine fs_icmp_lt (pc2 := 96) rfl rfl rfl (fun h93 => ?_) (fun h93 => ?_)
              · refine fs_aload_n (pc2 := 108) rfl rfl rfl rfl ?_
                refine fs_iload_n (pc2 := 109) rfl rfl rfl rfl ?_
                refine fs_iload_n (pc2 := 110) rfl rfl rfl rfl ?_
                try simp (disch := omega) only [nI_lit, pk_mul, nI_add, pk_sub, pk_rem4, nI_clamp, up2_o, up2_s, up2_i, cpV_o, cpV_i, e9, e8, e7]
                refine fs_callv (pc2 := 113) rfl rfl rfl rfl ⟨rfl, rfl⟩ (Nat.le_of_ble_eq_true rfl) (Nat.le_of_ble_eq_true rfl) (Nat.le_of_ble_eq_true rfl) (fs_rcv rfl (by assumption)) (m_leaveNow hm hM1 hh hk hT) (fun v9 sh9 V9 n9 hp9 => ?_)
                obtain ⟨ea9, eb9, ec9, hM2, kp2⟩ := hp9
                cases ea9
                obtain rfl := eb9.symm
                obtain rfl := ec9.symm
                try simp (disch := omega) only [nI_lit, pk_mul, nI_add, pk_sub, pk_rem4, nI_clamp, up2_o, up2_s, up2_i, cpV_o, cpV_i, e9, e8, e7]
                refine fs_ret rfl rfl ?_
                refine hP _ _ _ _ ⟨rfl, rfl, rfl, ?_, kp1.trans kp2⟩
                exact hM2
              · have := c_nlt (b := 2) h93 rfl rfl
                omega
        · have k22 : (H.2.1 k).1 4 < G.length - 4 := c_nle h22 rfl rfl
          rw [rd0 (by omega)] at hP
          refine fs_aload_n (pc2 := 26) rfl rfl rfl rfl ?_
          refine fs_iload_n (pc2 := 27) rfl rfl rfl rfl ?_
          refine fs_iload_n (pc2 := 28) rfl rfl rfl rfl ?_
          first | simp (disch := omega) only [nI_lit, pk_mul, nI_add, pk_sub, pk_rem4, nI_clamp, up2_o, up2_s, up2_i, cpV_o, cpV_i, e9, e8, e7, e19] | simp (disch := omega) only [nI_lit, pk_mul, nI_add, pk_sub, pk_rem4, nI_clamp, up2_o, up2_s, up2_i, cpV_o, cpV_i, e9, e8, e7] | skip
          refine fs_callv (pc2 := 31) rfl rfl rfl rfl ⟨rfl, rfl⟩ (Nat.le_of_ble_eq_true rfl) (Nat.le_of_ble_eq_true rfl) (Nat.le_of_ble_eq_true rfl) (fs_rcv rfl (by assumption)) (m_leaveNow hm hM hh hk hT) (fun v9 sh9 V9 n9 hp9 => ?_)
          obtain ⟨ea9, eb9, ec9, hM2, kp2⟩ := hp9
          cases ea9
          obtain rfl := eb9.symm
          obtain rfl := ec9.symm
          try simp (disch := omega) only [nI_lit, pk_mul, nI_add, pk_sub, pk_rem4, nI_clamp, up2_o, up2_s, up2_i, cpV_o, cpV_i, e9, e8, e7]
          refine fs_ret rfl rfl ?_
          refine hP _ _ _ _ ⟨rfl, rfl, rfl, ?_, kp2⟩
          rw [show ho_rd H k (false, H.2.1 k) = ho_leave (hoC H k (H.2.1 k)) k from rfl, hoC_id]
          exact hM2
end MSEG
