/-! CreditLink$Channel: texts put, kept, sent in segments -/
theorem Texts.lastRow {sh : fl_S} {V : fl_V} {t most room h : Nat} {tx : List (List Nat)} {ys : List Nat} (hT : Texts sh V t most room h (tx ++ [ys])) : Row sh V (t + 2 + 2 * tslot h most tx.length) room ys := hT.2.2.2.2.2.2.2 tx.length ys (by simp)
section CHAN2
variable {cy : Nat → ClassId} {z0 : Nat} {ext : Nat → Nat → List Value → ev_H → Nat → ev_P → Prop} {d : Nat} {sh : fl_S} {V : fl_V} {n c : Nat} {y : Ch}
set_option maxRecDepth 100000 in
set_option maxHeartbeats 4000000 in
theorem e_Chan_putText_no {q room2 : Nat} {ys : List Nat} (hq : Row sh V q room2 ys) (hd : q + 1 < c ∨ c + 19 ≤ q) (hno : y.1 7 < ys.length ∨ y.2.2.1.length = 2) (hC : Chan sh V c y) : fl_M cy z0 ext (d + 3) m_X0_putText [.ref (z0 + c), .ref (z0 + q)] sh V n (fun v sh' V' n' => v = some (.int 0) ∧ sh' = sh ∧ n' = n ∧ V' = V) := by
  obtain ⟨s0, g2, g3, g4, g5, ⟨h1, g6⟩, ⟨h2, g7⟩, g8⟩ := id hC
  unfold isChan at s0
  obtain ⟨t0, ga, t1, ta⟩ := id g6.1
  obtain ⟨r0, gb, r1, rb⟩ := id g7.1
  obtain ⟨w0, w1⟩ := id g8.1
  obtain ⟨q0, q1⟩ := id hq.1
  have eq1 : V q 1 = nI ys.length := hq.2.2.2.2.1
  have ql := hq.lt
  obtain ⟨e7, l7⟩ := hC.i 7 (by omega)
  refine fs_body rfl rfl (fun Ret hP => ?_)
  refine fs_aload_n (pc2 := 1) rfl rfl rfl rfl ?_
  refine fs_geti (pc2 := 4) rfl rfl rfl (by assumption) rfl ?_
  refine fs_aload_n (pc2 := 5) rfl rfl rfl rfl ?_
  refine fs_geti (pc2 := 8) rfl rfl rfl (by assumption) rfl ?_
  refine fs_icmp_le (pc2 := 11) rfl rfl rfl (fun h8 => ?_) (fun h8 => ?_)
  · rw [eq1, e7] at h8
    have hle : ys.length ≤ y.1 7 := (nI_leI ql l7).mp h8
    have hf : y.2.2.1.length = 2 := by omega
    refine fs_aload_n (pc2 := 14) rfl rfl rfl rfl ?_
    refine fs_getr (pc2 := 17) rfl rfl rfl (by assumption) rfl ?_
    refine fs_callv (pc2 := 20) rfl rfl rfl rfl ⟨rfl, rfl⟩ (Nat.le_of_ble_eq_true rfl) (Nat.le_of_ble_eq_true rfl) (Nat.le_of_ble_eq_true rfl) (fs_rcv rfl (by assumption)) (e_Texts_addEmpty0 g6 hf) (fun v9 sh9 V9 n9 hp9 => ?_)
    obtain ⟨ea9, eb9, ec9, hv9⟩ := hp9
    cases ea9
    obtain rfl := eb9.symm
    obtain rfl := ec9.symm
    cases hv9
    refine fs_astore_n0 (pc2 := 21) rfl rfl rfl (Nat.le_of_ble_eq_true rfl) ?_
    refine fs_aload_n0 (pc2 := 22) rfl rfl rfl rfl ?_
    refine fs_ifnonnull0 (pc2 := 25) rfl rfl rfl ?_
    refine fs_iconst (pc2 := 26) rfl rfl rfl ?_
    refine fs_iret rfl rfl (Or.inl rfl) ?_
    exact hP _ _ _ _ ⟨rfl, rfl, rfl, rfl⟩
  · rw [eq1, e7] at h8
    refine fs_iconst (pc2 := 12) rfl rfl rfl ?_
    refine fs_iret rfl rfl (Or.inl rfl) ?_
    exact hP _ _ _ _ ⟨rfl, rfl, rfl, rfl⟩
set_option maxRecDepth 100000 in
set_option maxHeartbeats 4000000 in
theorem e_Chan_putText {q room2 : Nat} {ys : List Nat} (hq : Row sh V q room2 ys) (hd : q + 1 < c ∨ c + 19 ≤ q) (hle : ys.length ≤ y.1 7) (hfr : y.2.2.1.length < 2) (h120 : ys.length ≤ 120) (hC : Chan sh V c y) : fl_M cy z0 ext (d + 4) m_X0_putText [.ref (z0 + c), .ref (z0 + q)] sh V n (fun v sh' V' n' => v = some (.int 1) ∧ sh' = sh ∧ n' = n ∧ Chan sh V' c (y.1, y.2.1, y.2.2.1 ++ [[ys.length % 256, ys.length / 256] ++ ys], y.2.2.2) ∧ ∀ a, (a < c ∨ c + 19 ≤ a) → V' a = V a) := by
  obtain ⟨s0, g2, g3, g4, g5, ⟨h1, g6⟩, ⟨h2, g7⟩, g8⟩ := id hC
  unfold isChan at s0
  obtain ⟨t0, ga, t1, ta⟩ := id g6.1
  obtain ⟨r0, gb, r1, rb⟩ := id g7.1
  obtain ⟨w0, w1⟩ := id g8.1
  obtain ⟨q0, q1⟩ := id hq.1
  have eq1 : V q 1 = nI ys.length := hq.2.2.2.2.1
  have ql := hq.lt
  obtain ⟨e7, l7⟩ := hC.i 7 (by omega)
  have hsl := tslot_lt g6.2.2.1 hfr
  refine fs_body rfl rfl (fun Ret hP => ?_)
  refine fs_aload_n (pc2 := 1) rfl rfl rfl rfl ?_
  refine fs_geti (pc2 := 4) rfl rfl rfl (by assumption) rfl ?_
  refine fs_aload_n (pc2 := 5) rfl rfl rfl rfl ?_
  refine fs_geti (pc2 := 8) rfl rfl rfl (by assumption) rfl ?_
  refine fs_icmp_le (pc2 := 11) rfl rfl rfl (fun h8 => ?_) (fun h8 => ?_)
  · refine fs_aload_n (pc2 := 14) rfl rfl rfl rfl ?_
    refine fs_getr (pc2 := 17) rfl rfl rfl (by assumption) rfl ?_
    refine fs_callv (pc2 := 20) rfl rfl rfl rfl ⟨rfl, rfl⟩ (Nat.le_of_ble_eq_true rfl) (Nat.le_of_ble_eq_true rfl) (Nat.le_of_ble_eq_true rfl) (fs_rcv rfl (by assumption)) (e_Texts_addEmpty g6 hfr) (fun v9 sh9 V9 n9 hp9 => ?_)
    obtain ⟨ea9, eb9, ec9, hT, hf⟩ := hp9
    cases ea9
    obtain rfl := eb9.symm
    obtain rfl := ec9.symm
    have hr0 := hT.lastRow
    obtain ⟨a0, a1⟩ := id hr0.1
    have eq2 : V9 q = V q := hf q (by omega) (by omega)
    have eq3 : V9 (q + 1) = V (q + 1) := hf (q + 1) (by omega) (by omega)
    have hq2 : Row sh V9 q room2 ys := hq.kept eq2 eq3
    refine fs_astore_n (pc2 := 21) rfl rfl rfl (Nat.le_of_ble_eq_true rfl) ?_
    refine fs_aload_n (pc2 := 22) rfl rfl rfl rfl ?_
    refine fs_ifnonnull rfl rfl ?_
    refine fs_aload_n (pc2 := 28) rfl rfl rfl rfl ?_
    refine fs_aload_n (pc2 := 29) rfl rfl rfl rfl ?_
    refine fs_geti (pc2 := 32) rfl rfl rfl (by assumption) rfl ?_
    refine fs_callv (pc2 := 35) rfl rfl rfl rfl ⟨rfl, rfl⟩ (Nat.le_of_ble_eq_true rfl) (Nat.le_of_ble_eq_true rfl) (Nat.le_of_ble_eq_true rfl) (fs_rcv rfl (by assumption)) (by rw [eq2, eq1]; exact e_Row_addNumber (by omega) hr0 (by simp)) (fun v9 sh9 V9 n9 hp9 => ?_)
    obtain ⟨ea9, eb9, ec9, hr1, hf1⟩ := hp9
    cases ea9
    obtain rfl := eb9.symm
    obtain rfl := ec9.symm
    have hq3 : Row sh V9 q room2 ys := hq2.kept (hf1 q (by omega) (by omega)) (hf1 (q + 1) (by omega) (by omega))
    have eq4 : V9 q 1 = nI ys.length := hq3.2.2.2.2.1
    refine fs_aload_n (pc2 := 36) rfl rfl rfl rfl ?_
    refine fs_aload_n (pc2 := 37) rfl rfl rfl rfl ?_
    refine fs_iconst (pc2 := 38) rfl rfl rfl ?_
    refine fs_aload_n (pc2 := 39) rfl rfl rfl rfl ?_
    refine fs_geti (pc2 := 42) rfl rfl rfl (by assumption) rfl ?_
    refine fs_callv (pc2 := 45) rfl rfl rfl rfl ⟨rfl, rfl⟩ (Nat.le_of_ble_eq_true rfl) (Nat.le_of_ble_eq_true rfl) (Nat.le_of_ble_eq_true rfl) (fs_rcv rfl (by assumption)) (by rw [eq4]; exact e_Row_addPart (s := 0) (by decide) (by omega) hr1 hq3 (by omega) (by omega) (by omega) (by simp; omega)) (fun v9 sh9 V9 n9 hp9 => ?_)
    obtain ⟨ea9, eb9, ec9, hr2, hf2⟩ := hp9
    cases ea9
    obtain rfl := eb9.symm
    obtain rfl := ec9.symm
    refine fs_iconst (pc2 := 46) rfl rfl rfl ?_
    refine fs_iret rfl rfl (Or.inr rfl) ?_
    rw [List.nil_append, List.drop_zero, List.take_of_length_le (Nat.le_refl _)] at hr2
    have hT2 := hT.last hr2 (fun a n1 n2 => (hf2 a n1 n2).trans (hf1 a n1 n2))
    refine hP _ _ _ _ ⟨rfl, rfl, rfl, hC.putTx hT2 (fun a ha => ?_), fun a ha => ?_⟩
    · rw [hf2 a (by omega) (by omega), hf1 a (by omega) (by omega), hf a (by omega) (by omega)]
    · rw [hf2 a (by omega) (by omega), hf1 a (by omega) (by omega), hf a (by omega) (by omega)]
  · exact absurd (by rw [eq1, e7]; exact nI_le hle l7) h8
set_option maxRecDepth 100000 in
set_option maxHeartbeats 4000000 in
theorem e_Chan_keep_no (hf : y.2.2.2.1.length = 4) (hC : Chan sh V c y) : fl_M cy z0 ext (d + 3) m_X0_keepWholeText [.ref (z0 + c)] sh V n (fun v sh' V' n' => v = some (.int 0) ∧ sh' = sh ∧ n' = n ∧ V' = V) := by
  obtain ⟨s0, g2, g3, g4, g5, ⟨h1, g6⟩, ⟨h2, g7⟩, g8⟩ := id hC
  unfold isChan at s0
  obtain ⟨t0, ga, t1, ta⟩ := id g6.1
  obtain ⟨r0, gb, r1, rb⟩ := id g7.1
  obtain ⟨w0, w1⟩ := id g8.1
  refine fs_body rfl rfl (fun Ret hP => ?_)
  refine fs_aload_n (pc2 := 1) rfl rfl rfl rfl ?_
  refine fs_getr (pc2 := 4) rfl rfl rfl (by assumption) rfl ?_
  refine fs_callv (pc2 := 7) rfl rfl rfl rfl ⟨rfl, rfl⟩ (Nat.le_of_ble_eq_true rfl) (Nat.le_of_ble_eq_true rfl) (Nat.le_of_ble_eq_true rfl) (fs_rcv rfl (by assumption)) (e_Texts_addEmpty0 g7 hf) (fun v9 sh9 V9 n9 hp9 => ?_)
  obtain ⟨ea9, eb9, ec9, hv9⟩ := hp9
  cases ea9
  obtain rfl := eb9.symm
  obtain rfl := ec9.symm
  cases hv9
  refine fs_astore_n0 (pc2 := 8) rfl rfl rfl (Nat.le_of_ble_eq_true rfl) ?_
  refine fs_aload_n0 (pc2 := 9) rfl rfl rfl rfl ?_
  refine fs_ifnonnull0 (pc2 := 12) rfl rfl rfl ?_
  refine fs_iconst (pc2 := 13) rfl rfl rfl ?_
  refine fs_iret rfl rfl (Or.inl rfl) ?_
  exact hP _ _ _ _ ⟨rfl, rfl, rfl, rfl⟩
set_option maxRecDepth 100000 in
set_option maxHeartbeats 4000000 in
theorem e_Chan_keep (hl : y.2.2.2.1.length < 4) (hC : Chan sh V c y) : fl_M cy z0 ext (d + 4) m_X0_keepWholeText [.ref (z0 + c)] sh V n (fun v sh' V' n' => v = some (.int 1) ∧ sh' = sh ∧ n' = n ∧ Chan sh V' c (y.1, none, y.2.2.1, y.2.2.2.1 ++ [y.2.2.2.2], []) ∧ ∀ a, (a < c ∨ c + 19 ≤ a) → V' a = V a) := by
  obtain ⟨s0, g2, g3, g4, g5, ⟨h1, g6⟩, ⟨h2, g7⟩, g8⟩ := id hC
  unfold isChan at s0
  obtain ⟨t0, ga, t1, ta⟩ := id g6.1
  obtain ⟨r0, gb, r1, rb⟩ := id g7.1
  obtain ⟨w0, w1⟩ := id g8.1
  have hsl := tslot_lt g7.2.2.1 hl
  have l100 : y.2.2.2.2.length ≤ 100 := g8.2.2.1
  refine fs_body rfl rfl (fun Ret hP => ?_)
  refine fs_aload_n (pc2 := 1) rfl rfl rfl rfl ?_
  refine fs_getr (pc2 := 4) rfl rfl rfl (by assumption) rfl ?_
  refine fs_callv (pc2 := 7) rfl rfl rfl rfl ⟨rfl, rfl⟩ (Nat.le_of_ble_eq_true rfl) (Nat.le_of_ble_eq_true rfl) (Nat.le_of_ble_eq_true rfl) (fs_rcv rfl (by assumption)) (e_Texts_addEmpty g7 hl) (fun v9 sh9 V9 n9 hp9 => ?_)
  obtain ⟨ea9, eb9, ec9, hT, hf⟩ := hp9
  cases ea9
  obtain rfl := eb9.symm
  obtain rfl := ec9.symm
  have hr0 := hT.lastRow
  obtain ⟨a0, a1⟩ := id hr0.1
  have hg2 : Row sh V9 (c + 17) 100 y.2.2.2.2 := g8.kept (hf _ (by omega) (by omega)) (hf _ (by omega) (by omega))
  have eg : V9 (c + 17) 1 = nI y.2.2.2.2.length := hg2.2.2.2.2.1
  refine fs_astore_n (pc2 := 8) rfl rfl rfl (Nat.le_of_ble_eq_true rfl) ?_
  refine fs_aload_n (pc2 := 9) rfl rfl rfl rfl ?_
  refine fs_ifnonnull rfl rfl ?_
  refine fs_aload_n (pc2 := 15) rfl rfl rfl rfl ?_
  refine fs_aload_n (pc2 := 16) rfl rfl rfl rfl ?_
  refine fs_getr (pc2 := 19) rfl rfl rfl (by assumption) rfl ?_
  refine fs_iconst (pc2 := 20) rfl rfl rfl ?_
  refine fs_aload_n (pc2 := 21) rfl rfl rfl rfl ?_
  refine fs_getr (pc2 := 24) rfl rfl rfl (by assumption) rfl ?_
  refine fs_geti (pc2 := 27) rfl rfl rfl (by assumption) rfl ?_
  refine fs_callv (pc2 := 30) rfl rfl rfl rfl ⟨rfl, rfl⟩ (Nat.le_of_ble_eq_true rfl) (Nat.le_of_ble_eq_true rfl) (Nat.le_of_ble_eq_true rfl) (fs_rcv rfl (by assumption)) (by rw [eg]; exact e_Row_addPart (s := 0) (by decide) (by omega) hr0 hg2 (by omega) (by omega) (by omega) (by simp; omega)) (fun v9 sh9 V9 n9 hp9 => ?_)
  obtain ⟨ea9, eb9, ec9, hr1, hf1⟩ := hp9
  cases ea9
  obtain rfl := eb9.symm
  obtain rfl := ec9.symm
  rw [List.nil_append, List.drop_zero, List.take_of_length_le (Nat.le_refl _)] at hr1
  have hg3 : Row sh V9 (c + 17) 100 y.2.2.2.2 := hg2.kept (hf1 _ (by omega) (by omega)) (hf1 _ (by omega) (by omega))
  refine fs_aload_n (pc2 := 31) rfl rfl rfl rfl ?_
  refine fs_getr (pc2 := 34) rfl rfl rfl (by assumption) rfl ?_
  refine fs_callv (pc2 := 37) rfl rfl rfl rfl ⟨rfl, rfl⟩ (Nat.le_of_ble_eq_true rfl) (Nat.le_of_ble_eq_true rfl) (Nat.le_of_ble_eq_true rfl) (fs_rcv rfl (by assumption)) (e_Row_clear hg3) (fun v9 sh9 V9 n9 hp9 => ?_)
  obtain ⟨ea9, eb9, ec9, hr2, hf2⟩ := hp9
  cases ea9
  obtain rfl := eb9.symm
  obtain rfl := ec9.symm
  refine fs_aload_n (pc2 := 38) rfl rfl rfl rfl ?_
  refine fs_iconst (pc2 := 39) rfl rfl rfl ?_
  refine fs_puti (pc2 := 42) rfl rfl rfl (by assumption) rfl True.intro ?_
  refine fs_iconst (pc2 := 43) rfl rfl rfl ?_
  refine fs_iret rfl rfl (Or.inr rfl) ?_
  have hT2 := hT.last hr1 hf1
  have c1 := hC.putRx hT2 (fun a ha => by rw [hf1 a (by omega) (by omega), hf a (by omega) (by omega)])
  have c2 := c1.putGt hr2 (fun a ha => hf2 a (by omega))
  refine hP _ _ _ _ ⟨rfl, rfl, rfl, c2.putDue (e := none) (fun k hk => by cases hk), fun a ha => ?_⟩
  rw [up2_o (by omega), hf2 a (by omega), hf1 a (by omega) (by omega), hf a (by omega) (by omega)]
end CHAN2
