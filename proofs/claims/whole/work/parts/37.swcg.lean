section SWCG
variable {cy : Nat → ClassId} {z0 : Nat} {ext : Nat → Nat → List Value → ev_H → Nat → ev_P → Prop} {d : Nat} {sh sh' : fl_S} {V V' : fl_V} {n n' K a0 c : Nat} {E : Nat → Nat} {R : Nat → List Nat} {S : List Nat} {HH : Nat → Ho}
theorem CL.snd {i h' : Nat} {rs' : List Nat} (h : CL sh V n K a0 c E R S HH) (hi : i < 2) (hH : Host sh' V' n K a0 (c + 2 + 184 * i) (E i) rs' (ho_send (4 - sents (HH (1 - i)).2.2.2.1) (HH i) (HH (1 - i)).2.2.2.1).1) (hw : Way sh' V' (c + 2 + 184 * (1 - i) + 81) h' (ho_send (4 - sents (HH (1 - i)).2.2.2.1) (HH i) (HH (1 - i)).2.2.2.1).2) (fv : ∀ a, (a < c + 2 + 184 * i ∨ c + 2 + 184 * i + 184 ≤ a) → (a < c + 2 + 184 * (1 - i) + 81 ∨ c + 2 + 184 * (1 - i) + 81 + 98 ≤ a) → V' a = V a) (fs : ∀ a, (a ≠ E i ∨ a = a0) → sh' a = sh a) : CL sh' V' n K a0 c E (va_up R i rs') S (st_snd HH i) ∧ FC c K sh V n sh' V' n := by
  have hO := h.2.2.1 (1 - i) (by omega)
  have hM := h.2.2.1 i hi
  obtain ⟨g1, ⟨g, g2, g3⟩, g4, g5, ⟨xs, g6⟩, g7, g8, g9⟩ := id h
  obtain ⟨LM, gM, eM⟩ := hM.arr
  have eKM : E i = a0 ∨ K ≤ E i := hM.2.2.2.2.1.2.2.1
  have eKO : E (1 - i) = a0 ∨ K ≤ E (1 - i) := hO.2.2.2.2.1.2.2.1
  have kn : K ≤ n := hM.1.2.2.2.1
  have s1 : ∀ a, a < K → sh' a = sh a := fun a h1 => fs a (by omega)
  have hne : E (1 - i) ≠ E i ∨ E (1 - i) = a0 := by
    rcases Nat.lt_or_ge i 1 with z | z
    · have z0 : i = 0 := by omega
      subst z0
      by_cases q : E 0 = E 1
      · exact Or.inr (by rw [← g7 q]; exact q.symm)
      · exact Or.inl (Ne.symm q)
    · have z1 : i = 1 := by omega
      subst z1
      by_cases q : E 0 = E 1
      · exact Or.inr (g7 q)
      · exact Or.inl q
  have hO2 := hO.move (Nat.le_refl n) (fun a a1 a2 => s1 a (by omega)) (fs _ hne) (s1 a0 (by omega)) (fun r hr => by
    obtain ⟨x, x1, x2, x3⟩ := hO.rowOf hr
    obtain ⟨n1, n2⟩ := x1.ne_e eM
    exact ⟨fs _ (Or.inl n1), fs _ (Or.inl n2)⟩) (fun a ha => fv a (by omega) (by omega)) hw
  refine ⟨⟨by unfold isCL; rw [s1 c (by omega)]; exact g1, ⟨g, by rw [s1 _ (by omega)]; exact g2, g3⟩, fun j hj => ?_, ?_, ⟨xs, ?_⟩, g7, g8, g9⟩, Nat.le_refl _, fun a a1 a2 => fv a (by omega) (by omega), fun a a1 a2 => s1 a a1⟩
  · unfold st_snd
    by_cases hji : j = i
    · subst hji
      rw [va_up_self, va_up_ne _ _ (by omega), va_up_self]
      exact hH
    · have : j = 1 - i := by omega
      rw [va_up_ne _ _ hji, this, va_up_self]
      exact hO2
  · exact (g5.shape (s1 _ (by omega)) (s1 _ (by omega))).kept (fv _ (by omega) (by omega)) (fv _ (by omega) (by omega))
  · exact (g6.shape (s1 _ (by omega)) (s1 _ (by omega))).kept (fv _ (by omega) (by omega)) (fv _ (by omega) (by omega))
set_option maxRecDepth 100000 in
set_option maxHeartbeats 4000000 in
theorem e_sendWhatCanGo (hL : CL sh V n K a0 c E R S HH) (hA : AlOK cy z0 a0 ext) (hS : SI2 HH) : fl_M cy z0 ext (d + 12) m_X6_sendWhatCanGo [.ref (z0 + c)] sh V n (fun v sh' V' n' => v = none ∧ n' = n ∧ (∃ R', CL sh' V' n K a0 c E R' S (st_send HH)) ∧ FC c K sh V n sh' V' n') := by
  obtain ⟨u1, ⟨gu, u2, u3⟩, u4, u5, ⟨ixs, u6⟩, u7, u8, u9⟩ := id hL
  unfold isCL at u1
  obtain ⟨so1, so2⟩ := id u5.1
  obtain ⟨io1, io2⟩ := id u6.1
  have lS : S.length ≤ 120 := u5.2.2.1
  have eS : V (c + 370) 1 = nI S.length := u5.2.2.2.2.1
  have f0 := (u4 0 (by decide)).1.1
  unfold isHo at f0
  have f1 := (u4 1 (by decide)).1.1
  unfold isHo at f1
  obtain ⟨w1, hw1⟩ := (u4 1 (by decide)).2.2.2.1
  have j0 : vp_in 0 2 := vp_in_nI (n := 0) (by decide) (by decide)
  have j1 : vp_in 1 2 := vp_in_nI (n := 1) (by decide) (by decide)
  refine fs_body rfl rfl (fun Ret hP => ?_)
  refine fs_iconst (pc2 := 1) rfl rfl rfl ?_
  refine fs_istore_n (pc2 := 2) rfl rfl rfl (Nat.le_of_ble_eq_true rfl) ?_
  refine fs_iload_n (pc2 := 3) rfl rfl rfl rfl ?_
  refine fs_iconst (pc2 := 4) rfl rfl rfl ?_
  refine fs_icmp_ge (pc2 := 7) rfl rfl rfl (fun h4 => ?_) (fun h4 => ?_)
  · exact absurd (by decide) h4
  · refine fs_aload_n (pc2 := 8) rfl rfl rfl rfl ?_
    refine fs_getr (pc2 := 11) rfl rfl rfl (by assumption) rfl ?_
    refine fs_iload_n (pc2 := 12) rfl rfl rfl rfl ?_
    refine fs_aald (pc2 := 13) rfl rfl rfl (by assumption) j0 (by exact u3 0 (by decide)) ?_
    refine fs_aload_n (pc2 := 14) rfl rfl rfl rfl ?_
    refine fs_getr (pc2 := 17) rfl rfl rfl (by assumption) rfl ?_
    refine fs_iconst (pc2 := 18) rfl rfl rfl ?_
    refine fs_iload_n (pc2 := 19) rfl rfl rfl rfl ?_
    refine fs_isub (pc2 := 20) rfl rfl rfl ?_
    refine fs_aald (pc2 := 21) rfl rfl rfl (by assumption) j1 (by exact u3 1 (by decide)) ?_
    refine fs_getr (pc2 := 24) rfl rfl rfl (by assumption) rfl ?_
    refine fs_callv (pc2 := 27) rfl rfl rfl rfl ⟨rfl, rfl⟩ (Nat.le_of_ble_eq_true rfl) (Nat.le_of_ble_eq_true rfl) (Nat.le_of_ble_eq_true rfl) (fs_rcv rfl (by assumption)) (e_sendOn (H := HH 0) (rs := R 0) (e := E 0) (w2 := c + 2 + 184 * 1 + 81) hA (by omega) (by omega) (by omega) (hS 0 (by decide)).1 hw1 (hS 1 (by decide)).2 (u4 0 (by decide))) (fun v9 sh9 V9 n9 hp9 => ?_)
    obtain ⟨ea9, eb9, rs1, h1, q1, q2, q3, q4⟩ := hp9
    cases ea9
    obtain rfl := eb9.symm
    obtain ⟨L1, F1⟩ := hL.snd (i := 0) (by decide) q1 q2 q3 q4
    have S1 := hS.snd (i := 0) (by decide)
    obtain ⟨u1x, ⟨gux, u2x, u3x⟩, u4x, u5x, ⟨ixsx, u6x⟩, u7x, u8x, u9x⟩ := id L1
    unfold isCL at u1x
    obtain ⟨so1x, so2x⟩ := id u5x.1
    obtain ⟨io1x, io2x⟩ := id u6x.1
    have f0x := (u4x 0 (by decide)).1.1
    unfold isHo at f0x
    have f1x := (u4x 1 (by decide)).1.1
    unfold isHo at f1x
    obtain ⟨w0, hw0⟩ := (u4x 0 (by decide)).2.2.2.1
    refine fs_iinc (pc2 := 30) rfl rfl rfl (Nat.le_of_ble_eq_true rfl) rfl ?_
    refine fs_goto rfl rfl ?_
    refine fs_iload_n (pc2 := 3) rfl rfl rfl rfl ?_
    refine fs_iconst (pc2 := 4) rfl rfl rfl ?_
    refine fs_icmp_ge (pc2 := 7) rfl rfl rfl (fun h4 => ?_) (fun h4 => ?_)
    · exact absurd (by decide) h4
    · refine fs_aload_n (pc2 := 8) rfl rfl rfl rfl ?_
      refine fs_getr (pc2 := 11) rfl rfl rfl (by assumption) rfl ?_
      refine fs_iload_n (pc2 := 12) rfl rfl rfl rfl ?_
      refine fs_aald (pc2 := 13) rfl rfl rfl (by assumption) j1 (by exact u3x 1 (by decide)) ?_
      refine fs_aload_n (pc2 := 14) rfl rfl rfl rfl ?_
      refine fs_getr (pc2 := 17) rfl rfl rfl (by assumption) rfl ?_
      refine fs_iconst (pc2 := 18) rfl rfl rfl ?_
      refine fs_iload_n (pc2 := 19) rfl rfl rfl rfl ?_
      refine fs_isub (pc2 := 20) rfl rfl rfl ?_
      refine fs_aald (pc2 := 21) rfl rfl rfl (by assumption) j0 (by exact u3x 0 (by decide)) ?_
      refine fs_getr (pc2 := 24) rfl rfl rfl (by assumption) rfl ?_
      refine fs_callv (pc2 := 27) rfl rfl rfl rfl ⟨rfl, rfl⟩ (Nat.le_of_ble_eq_true rfl) (Nat.le_of_ble_eq_true rfl) (Nat.le_of_ble_eq_true rfl) (fs_rcv rfl (by assumption)) (e_sendOn (H := st_snd HH 0 1) (rs := va_up R 0 rs1 1) (e := E 1) (w2 := c + 2 + 184 * 0 + 81) hA (by omega) (by omega) (by omega) (S1 1 (by decide)).1 hw0 (S1 0 (by decide)).2 (u4x 1 (by decide))) (fun v9 sh9 V9 n9 hp9 => ?_)
      obtain ⟨ea9, eb9, rs2, h2, q5, q6, q7, q8⟩ := hp9
      cases ea9
      obtain rfl := eb9.symm
      obtain ⟨L2, F2⟩ := L1.snd (i := 1) (by decide) q5 q6 q7 q8
      refine fs_iinc (pc2 := 30) rfl rfl rfl (Nat.le_of_ble_eq_true rfl) rfl ?_
      refine fs_goto rfl rfl ?_
      refine fs_iload_n (pc2 := 3) rfl rfl rfl rfl ?_
      refine fs_iconst (pc2 := 4) rfl rfl rfl ?_
      refine fs_icmp_ge (pc2 := 7) rfl rfl rfl (fun h4 => ?_) (fun h4 => ?_)
      · refine fs_ret rfl rfl ?_
        exact hP _ _ _ _ ⟨rfl, rfl, ⟨_, L2⟩, F1.trans F2⟩
      · exact absurd h4 (by decide)
end SWCG
