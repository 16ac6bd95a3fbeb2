/-! CreditLink$Texts: a few texts in a ring -/
def isTexts (sh : fl_S) (t most : Nat) : Prop := sh t = some (.inr (5, [some (some (t + 1)), none, none])) ∧ ∃ g, sh (t + 1) = some (.inl (7, most, some (.inl g))) ∧ ∀ j, j < most → g j = some (t + 2 + 2 * j)
/-- the place in the ring of the i-th -/
def tslot (h most i : Nat) : Nat := if h + i < most then h + i else h + i - most
theorem tslot_lt {h most i : Nat} (hh : h < most) (hi : i < most) : tslot h most i < most := by unfold tslot; split <;> omega
theorem tslot_ne {h most i j : Nat} (hh : h < most) (hi : i < most) (hj : j < most) (hij : i ≠ j) : tslot h most i ≠ tslot h most j := by unfold tslot; split <;> split <;> omega
def Texts (sh : fl_S) (V : fl_V) (t most room h : Nat) (tx : List (List Nat)) : Prop := isTexts sh t most ∧ most ≤ 8 ∧ h < most ∧ tx.length ≤ most ∧ V t 1 = nI h ∧ V t 2 = nI tx.length ∧ (∀ j, j < most → ∃ xs, Row sh V (t + 2 + 2 * j) room xs) ∧ ∀ i xs, tx[i]? = some xs → Row sh V (t + 2 + 2 * tslot h most i) room xs
theorem Texts.kept {sh : fl_S} {V V' : fl_V} {t most room h : Nat} {tx : List (List Nat)} (hT : Texts sh V t most room h tx) (hk : ∀ a, t ≤ a → a < t + 2 + 2 * most → V' a = V a) : Texts sh V' t most room h tx := by
  obtain ⟨g1, g2, g3, g4, g5, g6, g7, g8⟩ := hT
  have e0 : V' t = V t := hk t (Nat.le_refl _) (by omega)
  refine ⟨g1, g2, g3, g4, by rw [e0]; exact g5, by rw [e0]; exact g6, fun j hj => ?_, fun i xs hi => ?_⟩
  · obtain ⟨xs, hx⟩ := g7 j hj
    exact ⟨xs, hx.kept (hk _ (by omega) (by omega)) (hk _ (by omega) (by omega))⟩
  · have hl : i < tx.length := (List.getElem?_eq_some_iff.mp hi).1
    have := tslot_lt (i := i) g3 (by omega)
    exact (g8 i xs hi).kept (hk _ (by omega) (by omega)) (hk _ (by omega) (by omega))
theorem Texts.shape {sh sh' : fl_S} {V : fl_V} {t most room h : Nat} {tx : List (List Nat)} (hT : Texts sh V t most room h tx) (hk : ∀ a, t ≤ a → a < t + 2 + 2 * most → sh' a = sh a) : Texts sh' V t most room h tx := by
  obtain ⟨⟨f1, g, f2, f3⟩, g2, g3, g4, g5, g6, g7, g8⟩ := hT
  refine ⟨⟨by rw [hk t (Nat.le_refl _) (by omega)]; exact f1, g, by rw [hk (t + 1) (by omega) (by omega)]; exact f2, f3⟩, g2, g3, g4, g5, g6, fun j hj => ?_, fun i xs hi => ?_⟩
  · obtain ⟨xs, hx⟩ := g7 j hj
    exact ⟨xs, hx.shape (hk _ (by omega) (by omega)) (hk _ (by omega) (by omega))⟩
  · have hl : i < tx.length := (List.getElem?_eq_some_iff.mp hi).1
    have := tslot_lt (i := i) g3 (by omega)
    exact (g8 i xs hi).shape (hk _ (by omega) (by omega)) (hk _ (by omega) (by omega))
/-- the last text is another one now -/
theorem Texts.last {sh : fl_S} {V V' : fl_V} {t most room h : Nat} {tx : List (List Nat)} {ys xs : List Nat} (hT : Texts sh V t most room h (tx ++ [ys])) (hr : Row sh V' (t + 2 + 2 * tslot h most tx.length) room xs) (hk : ∀ a, a ≠ t + 2 + 2 * tslot h most tx.length → a ≠ t + 2 + 2 * tslot h most tx.length + 1 → V' a = V a) : Texts sh V' t most room h (tx ++ [xs]) := by
  obtain ⟨g1, g2, g3, g4, g5, g6, g7, g8⟩ := hT
  have hl : tx.length < most := by simp at g4; omega
  have e0 : V' t = V t := hk t (by omega) (by omega)
  refine ⟨g1, g2, g3, by simpa using g4, by rw [e0]; exact g5, by rw [e0]; simpa using g6, fun j hj => ?_, fun i zs hi => ?_⟩
  · by_cases hj2 : j = tslot h most tx.length
    · subst hj2; exact ⟨xs, hr⟩
    · obtain ⟨us, hx⟩ := g7 j hj
      exact ⟨us, hx.kept (hk _ (by omega) (by omega)) (hk _ (by omega) (by omega))⟩
  · by_cases hil : i < tx.length
    · rw [List.getElem?_append_left hil] at hi
      have h8 := g8 i zs (by rw [List.getElem?_append_left hil]; exact hi)
      have hne := tslot_ne (i := i) (j := tx.length) g3 (by omega) hl (by omega)
      exact h8.kept (hk _ (by omega) (by omega)) (hk _ (by omega) (by omega))
    · have hi2 : i = tx.length := by
        have := (List.getElem?_eq_some_iff.mp hi).1
        simp at this
        omega
      subst hi2
      rw [List.getElem?_append_right (Nat.le_refl _)] at hi
      simp at hi
      subst hi
      exact hr
section TEXTS
variable {cy : Nat → ClassId} {z0 : Nat} {ext : Nat → Nat → List Value → ev_H → Nat → ev_P → Prop} {d : Nat} {sh : fl_S} {V : fl_V} {n t most room h : Nat} {tx : List (List Nat)}
set_option maxRecDepth 100000 in
theorem e_Texts_clear (hT : Texts sh V t most room h tx) : fl_M cy z0 ext (d + 1) m_X4_clear [.ref (z0 + t)] sh V n (fun v sh' V' n' => v = none ∧ sh' = sh ∧ n' = n ∧ Texts sh V' t most room h [] ∧ ∀ a, a ≠ t → V' a = V a) := by
  obtain ⟨⟨f1, g, f2, f3⟩, g2, g3, g4, g5, g6, g7, g8⟩ := id hT
  refine fs_body rfl rfl (fun Ret hP => ?_)
  refine fs_aload_n (pc2 := 1) rfl rfl rfl rfl ?_
  refine fs_iconst (pc2 := 2) rfl rfl rfl ?_
  refine fs_puti (pc2 := 5) rfl rfl rfl (by assumption) rfl True.intro ?_
  refine fs_ret rfl rfl ?_
  refine hP _ _ _ _ ⟨rfl, rfl, rfl, ⟨⟨f1, g, f2, f3⟩, g2, g3, Nat.zero_le _, ?_, ?_, fun j hj => ?_, fun i xs hi => by simp at hi⟩, fun a ha => up2_o ha⟩
  · simpa [up2] using g5
  · simp [up2, nI_0]
  · obtain ⟨xs, hx⟩ := g7 j hj
    exact ⟨xs, hx.kept (up2_o (by omega)) (up2_o (by omega))⟩
set_option maxRecDepth 100000 in
theorem e_Texts_first0 (hT : Texts sh V t most room h []) : fl_M cy z0 ext (d + 1) m_X4_first [.ref (z0 + t)] sh V n (fun v sh' V' n' => v = some .null ∧ sh' = sh ∧ n' = n ∧ V' = V) := by
  obtain ⟨⟨f1, g, f2, f3⟩, g2, g3, g4, g5, g6, g7, g8⟩ := id hT
  refine fs_body rfl rfl (fun Ret hP => ?_)
  refine fs_aload_n (pc2 := 1) rfl rfl rfl rfl ?_
  refine fs_geti (pc2 := 4) rfl rfl rfl (by assumption) rfl ?_
  refine fs_if_le (pc2 := 7) rfl rfl rfl (fun h4 => ?_) (fun h4 => ?_)
  · refine fs_null (pc2 := 20) rfl rfl rfl ?_
    refine fs_aret (q := none) rfl rfl True.intro ?_
    exact hP _ _ _ _ ⟨rfl, rfl, rfl, rfl⟩
  · exact absurd (by rw [g6]; exact nI_0 ▸ Int32.le_refl _) h4
set_option maxRecDepth 100000 in
theorem e_Texts_first {xs : List Nat} (hT : Texts sh V t most room h (xs :: tx)) : fl_M cy z0 ext (d + 1) m_X4_first [.ref (z0 + t)] sh V n (fun v sh' V' n' => v = some (.ref (z0 + (t + 2 + 2 * h))) ∧ sh' = sh ∧ n' = n ∧ V' = V) := by
  obtain ⟨⟨f1, g, f2, f3⟩, g2, g3, g4, g5, g6, g7, g8⟩ := id hT
  simp only [List.length_cons] at g4 g6
  have i1 : vp_in (V t 1) most := by rw [g5]; exact vp_in_nI g3 (by omega)
  have i2 : g (V t 1).toNatClampNeg = some (t + 2 + 2 * h) := by rw [g5, nI_clamp (by omega)]; exact f3 h g3
  refine fs_body rfl rfl (fun Ret hP => ?_)
  refine fs_aload_n (pc2 := 1) rfl rfl rfl rfl ?_
  refine fs_geti (pc2 := 4) rfl rfl rfl (by assumption) rfl ?_
  refine fs_if_le (pc2 := 7) rfl rfl rfl (fun h4 => ?_) (fun h4 => ?_)
  · exact absurd (by rw [g6] at h4; exact h4) (nI_nle (by omega) (by omega))
  · refine fs_aload_n (pc2 := 8) rfl rfl rfl rfl ?_
    refine fs_getr (pc2 := 11) rfl rfl rfl (by assumption) rfl ?_
    refine fs_aload_n (pc2 := 12) rfl rfl rfl rfl ?_
    refine fs_geti (pc2 := 15) rfl rfl rfl (by assumption) rfl ?_
    refine fs_aald (pc2 := 16) rfl rfl rfl (by assumption) i1 i2 ?_
    refine fs_goto rfl rfl ?_
    refine fs_aret (q := some (t + 2 + 2 * h)) rfl rfl True.intro ?_
    exact hP _ _ _ _ ⟨rfl, rfl, rfl, rfl⟩
set_option maxRecDepth 100000 in
theorem e_Texts_addEmpty0 (hT : Texts sh V t most room h tx) (hfull : tx.length = most) : fl_M cy z0 ext (d + 1) m_X4_addEmpty [.ref (z0 + t)] sh V n (fun v sh' V' n' => v = some .null ∧ sh' = sh ∧ n' = n ∧ V' = V) := by
  obtain ⟨⟨f1, g, f2, f3⟩, g2, g3, g4, g5, g6, g7, g8⟩ := id hT
  refine fs_body rfl rfl (fun Ret hP => ?_)
  refine fs_aload_n (pc2 := 1) rfl rfl rfl rfl ?_
  refine fs_geti (pc2 := 4) rfl rfl rfl (by assumption) rfl ?_
  refine fs_aload_n (pc2 := 5) rfl rfl rfl rfl ?_
  refine fs_getr (pc2 := 8) rfl rfl rfl (by assumption) rfl ?_
  refine fs_alen (pc2 := 9) rfl rfl rfl (by assumption) ?_
  refine fs_icmp_lt (pc2 := 12) rfl rfl rfl (fun h9 => ?_) (fun h9 => ?_)
  · exact absurd (by rw [g6] at h9; exact h9) (nI_nlt (by omega) (by omega))
  · refine fs_null (pc2 := 13) rfl rfl rfl ?_
    refine fs_aret (q := none) rfl rfl True.intro ?_
    exact hP _ _ _ _ ⟨rfl, rfl, rfl, rfl⟩
set_option maxRecDepth 100000 in
theorem e_Texts_addEmpty (hT : Texts sh V t most room h tx) (hl : tx.length < most) : fl_M cy z0 ext (d + 2) m_X4_addEmpty [.ref (z0 + t)] sh V n (fun v sh' V' n' => v = some (.ref (z0 + (t + 2 + 2 * tslot h most tx.length))) ∧ sh' = sh ∧ n' = n ∧ Texts sh V' t most room h (tx ++ [[]]) ∧ ∀ a, a ≠ t → a ≠ t + 2 + 2 * tslot h most tx.length → V' a = V a) := by
  obtain ⟨⟨f1, g, f2, f3⟩, g2, g3, g4, g5, g6, g7, g8⟩ := id hT
  have hs := tslot_lt g3 hl
  obtain ⟨us, hrow⟩ := g7 _ hs
  obtain ⟨hw0, hw1⟩ := id hrow.1
  have fin : ∀ (V1 : fl_V), Row sh V1 (t + 2 + 2 * tslot h most tx.length) room [] → (∀ a, a ≠ t + 2 + 2 * tslot h most tx.length → V1 a = V a) → Texts sh (up2 V1 t 2 (V1 t 2 + 1)) t most room h (tx ++ [[]]) ∧ ∀ a, a ≠ t → a ≠ t + 2 + 2 * tslot h most tx.length → up2 V1 t 2 (V1 t 2 + 1) a = V a := by
    intro V1 hr1 hk1
    have e0 : V1 t = V t := hk1 t (by omega)
    refine ⟨⟨⟨f1, g, f2, f3⟩, g2, g3, by simp; omega, ?_, ?_, fun j hj => ?_, fun i zs hi => ?_⟩, fun a h1 h2 => by rw [up2_o h1]; exact hk1 a h2⟩
    · simpa [up2, e0] using g5
    · simp [up2, e0, g6, nI_1]
    · by_cases hj2 : j = tslot h most tx.length
      · subst hj2
        exact ⟨[], hr1.kept (up2_o (by omega)) (up2_o (by omega))⟩
      · obtain ⟨ws, hx⟩ := g7 j hj
        exact ⟨ws, hx.kept (by rw [up2_o (by omega)]; exact hk1 _ (by omega)) (by rw [up2_o (by omega)]; exact hk1 _ (by omega))⟩
    · by_cases hil : i < tx.length
      · rw [List.getElem?_append_left hil] at hi
        have hne := tslot_ne (i := i) (j := tx.length) g3 (by omega) hl (by omega)
        exact (g8 i zs hi).kept (by rw [up2_o (by omega)]; exact hk1 _ (by omega)) (by rw [up2_o (by omega)]; exact hk1 _ (by omega))
      · have hi2 : i = tx.length := by
          have := (List.getElem?_eq_some_iff.mp hi).1
          simp at this
          omega
        subst hi2
        rw [List.getElem?_append_right (Nat.le_refl _)] at hi
        simp at hi
        subst hi
        exact hr1.kept (up2_o (by omega)) (up2_o (by omega))
  refine fs_body rfl rfl (fun Ret hP => ?_)
  refine fs_aload_n (pc2 := 1) rfl rfl rfl rfl ?_
  refine fs_geti (pc2 := 4) rfl rfl rfl (by assumption) rfl ?_
  refine fs_aload_n (pc2 := 5) rfl rfl rfl rfl ?_
  refine fs_getr (pc2 := 8) rfl rfl rfl (by assumption) rfl ?_
  refine fs_alen (pc2 := 9) rfl rfl rfl (by assumption) ?_
  refine fs_icmp_lt (pc2 := 12) rfl rfl rfl (fun h9 => ?_) (fun h9 => ?_)
  · refine fs_aload_n (pc2 := 15) rfl rfl rfl rfl ?_
    refine fs_geti (pc2 := 18) rfl rfl rfl (by assumption) rfl ?_
    refine fs_aload_n (pc2 := 19) rfl rfl rfl rfl ?_
    refine fs_geti (pc2 := 22) rfl rfl rfl (by assumption) rfl ?_
    refine fs_iadd (pc2 := 23) rfl rfl rfl ?_
    refine fs_istore_n (pc2 := 24) rfl rfl rfl (Nat.le_of_ble_eq_true rfl) ?_
    refine fs_aload_n (pc2 := 25) rfl rfl rfl rfl ?_
    refine fs_getr (pc2 := 28) rfl rfl rfl (by assumption) rfl ?_
    refine fs_iload_n (pc2 := 29) rfl rfl rfl rfl ?_
    refine fs_aload_n (pc2 := 30) rfl rfl rfl rfl ?_
    refine fs_getr (pc2 := 33) rfl rfl rfl (by assumption) rfl ?_
    refine fs_alen (pc2 := 34) rfl rfl rfl (by assumption) ?_
    refine fs_icmp_ge (pc2 := 37) rfl rfl rfl (fun h34 => ?_) (fun h34 => ?_)
    · have hge : most ≤ h + tx.length := by
        rw [g5, g6, nI_add] at h34
        exact Nat.not_lt.mp (fun z => h34 (nI_lt z (by omega)))
      have es : tslot h most tx.length = h + tx.length - most := by unfold tslot; rw [if_neg (by omega)]
      have e2 : V t 1 + V t 2 - Int32.ofNat most = nI (tslot h most tx.length) := by rw [g5, g6, nI_add, es]; exact pk_sub hge
      have i1 : vp_in (V t 1 + V t 2 - Int32.ofNat most) most := by rw [e2]; exact vp_in_nI hs (by omega)
      have i2 : g (V t 1 + V t 2 - Int32.ofNat most).toNatClampNeg = some (t + 2 + 2 * tslot h most tx.length) := by rw [e2, nI_clamp (by omega)]; exact f3 _ hs
      refine fs_iload_n (pc2 := 42) rfl rfl rfl rfl ?_
      refine fs_aload_n (pc2 := 43) rfl rfl rfl rfl ?_
      refine fs_getr (pc2 := 46) rfl rfl rfl (by assumption) rfl ?_
      refine fs_alen (pc2 := 47) rfl rfl rfl (by assumption) ?_
      refine fs_isub (pc2 := 48) rfl rfl rfl ?_
      refine fs_aald (pc2 := 49) rfl rfl rfl (by assumption) i1 i2 ?_
      refine fs_astore_n (pc2 := 50) rfl rfl rfl (Nat.le_of_ble_eq_true rfl) ?_
      refine fs_aload_n (pc2 := 51) rfl rfl rfl rfl ?_
      refine fs_callv (pc2 := 54) rfl rfl rfl rfl ⟨rfl, rfl⟩ (Nat.le_of_ble_eq_true rfl) (Nat.le_of_ble_eq_true rfl) (Nat.le_of_ble_eq_true rfl) (fs_rcv rfl (by assumption)) (e_Row_clear hrow) (fun v9 sh9 V9 n9 hp9 => ?_)
      obtain ⟨rfl, rfl, rfl, hr1, hk1⟩ := hp9
      refine fs_aload_n (pc2 := 55) rfl rfl rfl rfl ?_
      first | refine fs_dup_r (pc2 := 56) rfl rfl rfl ?_ | refine fs_dup_i (pc2 := 56) rfl rfl rfl ?_
      refine fs_geti (pc2 := 59) rfl rfl rfl (by assumption) rfl ?_
      refine fs_iconst (pc2 := 60) rfl rfl rfl ?_
      refine fs_iadd (pc2 := 61) rfl rfl rfl ?_
      refine fs_puti (pc2 := 64) rfl rfl rfl (by assumption) rfl True.intro ?_
      refine fs_aload_n (pc2 := 65) rfl rfl rfl rfl ?_
      refine fs_aret (q := some (t + 2 + 2 * tslot h most tx.length)) rfl rfl True.intro ?_
      exact hP _ _ _ _ ⟨rfl, rfl, rfl, fin _ hr1 hk1⟩
    · have hlt : h + tx.length < most := by
        rw [g5, g6, nI_add] at h34
        exact (nI_ltI (by omega) (by omega)).mp h34
      have es : tslot h most tx.length = h + tx.length := by unfold tslot; rw [if_pos hlt]
      have e2 : V t 1 + V t 2 = nI (tslot h most tx.length) := by rw [g5, g6, nI_add, es]
      have i1 : vp_in (V t 1 + V t 2) most := by rw [e2]; exact vp_in_nI hs (by omega)
      have i2 : g (V t 1 + V t 2).toNatClampNeg = some (t + 2 + 2 * tslot h most tx.length) := by rw [e2, nI_clamp (by omega)]; exact f3 _ hs
      refine fs_iload_n (pc2 := 38) rfl rfl rfl rfl ?_
      refine fs_goto rfl rfl ?_
      refine fs_aald (pc2 := 49) rfl rfl rfl (by assumption) i1 i2 ?_
      refine fs_astore_n (pc2 := 50) rfl rfl rfl (Nat.le_of_ble_eq_true rfl) ?_
      refine fs_aload_n (pc2 := 51) rfl rfl rfl rfl ?_
      refine fs_callv (pc2 := 54) rfl rfl rfl rfl ⟨rfl, rfl⟩ (Nat.le_of_ble_eq_true rfl) (Nat.le_of_ble_eq_true rfl) (Nat.le_of_ble_eq_true rfl) (fs_rcv rfl (by assumption)) (e_Row_clear hrow) (fun v9 sh9 V9 n9 hp9 => ?_)
      obtain ⟨rfl, rfl, rfl, hr1, hk1⟩ := hp9
      refine fs_aload_n (pc2 := 55) rfl rfl rfl rfl ?_
      first | refine fs_dup_r (pc2 := 56) rfl rfl rfl ?_ | refine fs_dup_i (pc2 := 56) rfl rfl rfl ?_
      refine fs_geti (pc2 := 59) rfl rfl rfl (by assumption) rfl ?_
      refine fs_iconst (pc2 := 60) rfl rfl rfl ?_
      refine fs_iadd (pc2 := 61) rfl rfl rfl ?_
      refine fs_puti (pc2 := 64) rfl rfl rfl (by assumption) rfl True.intro ?_
      refine fs_aload_n (pc2 := 65) rfl rfl rfl rfl ?_
      refine fs_aret (q := some (t + 2 + 2 * tslot h most tx.length)) rfl rfl True.intro ?_
      exact hP _ _ _ _ ⟨rfl, rfl, rfl, fin _ hr1 hk1⟩
  · exact absurd (by rw [g6]; exact nI_lt hl (by omega)) h9
set_option maxRecDepth 100000 in
theorem e_Texts_dropFirst {xs : List Nat} (hT : Texts sh V t most room h (xs :: tx)) : fl_M cy z0 ext (d + 1) m_X4_dropFirst [.ref (z0 + t)] sh V n (fun v sh' V' n' => v = none ∧ sh' = sh ∧ n' = n ∧ (∃ h', Texts sh V' t most room h' tx) ∧ ∀ a, a ≠ t → V' a = V a) := by
  obtain ⟨⟨f1, g, f2, f3⟩, g2, g3, g4, g5, g6, g7, g8⟩ := id hT
  simp only [List.length_cons] at g4 g6
  have fin : ∀ (h' : Nat) (u : Int32), h' = (if h + 1 < most then h + 1 else 0) → u = nI h' → Texts sh (up2 (up2 V t 1 u) t 2 (up2 V t 1 u t 2 - 1)) t most room h' tx ∧ ∀ a, a ≠ t → up2 (up2 V t 1 u) t 2 (up2 V t 1 u t 2 - 1) a = V a := by
    intro h' u hh hu
    have hh2 : h' < most := by rw [hh]; split <;> omega
    refine ⟨⟨⟨f1, g, f2, f3⟩, g2, hh2, by omega, ?_, ?_, fun j hj => ?_, fun i zs hi => ?_⟩, fun a h1 => by rw [up2_o h1, up2_o h1]⟩
    · simp [up2, hu]
    · simp [up2, g6, nI_pred]
    · obtain ⟨ws, hx⟩ := g7 j hj
      exact ⟨ws, hx.kept (by rw [up2_o (by omega), up2_o (by omega)]) (by rw [up2_o (by omega), up2_o (by omega)])⟩
    · have hl : i < tx.length := (List.getElem?_eq_some_iff.mp hi).1
      have h8 := g8 (i + 1) zs (by simpa using hi)
      have e1 : tslot h' most i = tslot h most (i + 1) := by
        rw [hh]
        unfold tslot
        split <;> split <;> split <;> omega
      rw [e1]
      exact h8.kept (by rw [up2_o (by omega), up2_o (by omega)]) (by rw [up2_o (by omega), up2_o (by omega)])
  refine fs_body rfl rfl (fun Ret hP => ?_)
  refine fs_aload_n (pc2 := 1) rfl rfl rfl rfl ?_
  refine fs_geti (pc2 := 4) rfl rfl rfl (by assumption) rfl ?_
  refine fs_if_le (pc2 := 7) rfl rfl rfl (fun h4 => ?_) (fun h4 => ?_)
  · exact absurd (by rw [g6] at h4; exact h4) (nI_nle (by omega) (by omega))
  · refine fs_aload_n (pc2 := 8) rfl rfl rfl rfl ?_
    refine fs_aload_n (pc2 := 9) rfl rfl rfl rfl ?_
    refine fs_geti (pc2 := 12) rfl rfl rfl (by assumption) rfl ?_
    refine fs_iconst (pc2 := 13) rfl rfl rfl ?_
    refine fs_iadd (pc2 := 14) rfl rfl rfl ?_
    refine fs_aload_n (pc2 := 15) rfl rfl rfl rfl ?_
    refine fs_getr (pc2 := 18) rfl rfl rfl (by assumption) rfl ?_
    refine fs_alen (pc2 := 19) rfl rfl rfl (by assumption) ?_
    refine fs_icmp_ge (pc2 := 22) rfl rfl rfl (fun h19 => ?_) (fun h19 => ?_)
    · refine fs_iconst (pc2 := 32) rfl rfl rfl ?_
      refine fs_puti (pc2 := 35) rfl rfl rfl (by assumption) rfl True.intro ?_
      refine fs_aload_n (pc2 := 36) rfl rfl rfl rfl ?_
      first | refine fs_dup_r (pc2 := 37) rfl rfl rfl ?_ | refine fs_dup_i (pc2 := 37) rfl rfl rfl ?_
      refine fs_geti (pc2 := 40) rfl rfl rfl (by assumption) rfl ?_
      refine fs_iconst (pc2 := 41) rfl rfl rfl ?_
      refine fs_isub (pc2 := 42) rfl rfl rfl ?_
      refine fs_puti (pc2 := 45) rfl rfl rfl (by assumption) rfl True.intro ?_
      refine fs_ret rfl rfl ?_
      have hge : ¬ h + 1 < most := by
        intro z
        apply h19
        rw [g5, nI_1]
        exact nI_lt z (by omega)
      obtain ⟨q1, q2⟩ := fin 0 0 (by rw [if_neg hge]) nI_0.symm
      exact hP _ _ _ _ ⟨rfl, rfl, rfl, ⟨_, q1⟩, q2⟩
    · refine fs_aload_n (pc2 := 23) rfl rfl rfl rfl ?_
      refine fs_geti (pc2 := 26) rfl rfl rfl (by assumption) rfl ?_
      refine fs_iconst (pc2 := 27) rfl rfl rfl ?_
      refine fs_iadd (pc2 := 28) rfl rfl rfl ?_
      refine fs_goto rfl rfl ?_
      refine fs_puti (pc2 := 35) rfl rfl rfl (by assumption) rfl True.intro ?_
      refine fs_aload_n (pc2 := 36) rfl rfl rfl rfl ?_
      first | refine fs_dup_r (pc2 := 37) rfl rfl rfl ?_ | refine fs_dup_i (pc2 := 37) rfl rfl rfl ?_
      refine fs_geti (pc2 := 40) rfl rfl rfl (by assumption) rfl ?_
      refine fs_iconst (pc2 := 41) rfl rfl rfl ?_
      refine fs_isub (pc2 := 42) rfl rfl rfl ?_
      refine fs_puti (pc2 := 45) rfl rfl rfl (by assumption) rfl True.intro ?_
      refine fs_ret rfl rfl ?_
      have hlt : h + 1 < most := by
        rw [g5, nI_1] at h19
        exact (nI_ltI (by omega) (by omega)).mp h19
      obtain ⟨q1, q2⟩ := fin (h + 1) (V t 1 + 1) (by rw [if_pos hlt]) (by rw [g5, nI_1])
      exact hP _ _ _ _ ⟨rfl, rfl, rfl, ⟨_, q1⟩, q2⟩
end TEXTS
