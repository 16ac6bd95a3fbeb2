/-! CreditLink$Way: packets in a ring. A packet: marked, sent, its bytes -/
abbrev Pkt : Type := Bool × Bool × List Nat
def bI (b : Bool) : Int32 := match b with
  | true => 1
  | false => 0
theorem bI_01 (b : Bool) : bI b = 0 ∨ bI b = 1 := by cases b <;> simp [bI]
theorem bI_0 {b : Bool} : bI b = 0 ↔ b = false := by cases b <;> simp [bI]
def Pk (sh : fl_S) (V : fl_V) (p : Nat) (y : Pkt) : Prop := sh p = some (.inr (3, [some (some (p + 1)), none, none])) ∧ V p 1 = bI y.1 ∧ V p 2 = bI y.2.1 ∧ Row sh V (p + 1) 27 y.2.2
theorem Pk.kept {sh : fl_S} {V V' : fl_V} {p : Nat} {y : Pkt} (h : Pk sh V p y) (h0 : V' p = V p) (h1 : V' (p + 1) = V (p + 1)) (h2 : V' (p + 2) = V (p + 2)) : Pk sh V' p y := by
  obtain ⟨g1, g2, g3, g4⟩ := h
  exact ⟨g1, by rw [h0]; exact g2, by rw [h0]; exact g3, g4.kept h1 h2⟩
theorem Pk.shape {sh sh' : fl_S} {V : fl_V} {p : Nat} {y : Pkt} (h : Pk sh V p y) (h0 : sh' p = sh p) (h1 : sh' (p + 1) = sh (p + 1)) (h2 : sh' (p + 2) = sh (p + 2)) : Pk sh' V p y := by
  obtain ⟨g1, g2, g3, g4⟩ := h
  exact ⟨by rw [h0]; exact g1, g2, g3, g4.shape h1 h2⟩
def isWay (sh : fl_S) (w : Nat) : Prop := sh w = some (.inr (6, [some (some (w + 1)), none, none, none])) ∧ ∃ g, sh (w + 1) = some (.inl (6, 32, some (.inl g))) ∧ ∀ j, j < 32 → g j = some (w + 2 + 3 * j)
def sents (ps : List Pkt) : Nat := (ps.filter (fun y => y.2.1)).length
theorem sents_le (ps : List Pkt) : sents ps ≤ ps.length := List.length_filter_le _ _
def Way (sh : fl_S) (V : fl_V) (w h : Nat) (ps : List Pkt) : Prop := isWay sh w ∧ h < 32 ∧ ps.length ≤ 32 ∧ V w 1 = nI h ∧ V w 2 = nI ps.length ∧ V w 3 = nI (sents ps) ∧ (∀ j, j < 32 → ∃ y, Pk sh V (w + 2 + 3 * j) y) ∧ ∀ i y, ps[i]? = some y → Pk sh V (w + 2 + 3 * ((h + i) % 32)) y
theorem Way.kept {sh : fl_S} {V V' : fl_V} {w h : Nat} {ps : List Pkt} (hW : Way sh V w h ps) (hk : ∀ a, w ≤ a → a < w + 98 → V' a = V a) : Way sh V' w h ps := by
  obtain ⟨g1, g2, g3, g4, g5, g6, g7, g8⟩ := hW
  have e0 : V' w = V w := hk w (Nat.le_refl _) (by omega)
  refine ⟨g1, g2, g3, by rw [e0]; exact g4, by rw [e0]; exact g5, by rw [e0]; exact g6, fun j hj => ?_, fun i y hi => ?_⟩
  · obtain ⟨y, hy⟩ := g7 j hj
    exact ⟨y, hy.kept (hk _ (by omega) (by omega)) (hk _ (by omega) (by omega)) (hk _ (by omega) (by omega))⟩
  · exact (g8 i y hi).kept (hk _ (by omega) (by omega)) (hk _ (by omega) (by omega)) (hk _ (by omega) (by omega))
theorem Way.shape {sh sh' : fl_S} {V : fl_V} {w h : Nat} {ps : List Pkt} (hW : Way sh V w h ps) (hk : ∀ a, w ≤ a → a < w + 98 → sh' a = sh a) : Way sh' V w h ps := by
  obtain ⟨⟨f1, g, f2, f3⟩, g2, g3, g4, g5, g6, g7, g8⟩ := hW
  refine ⟨⟨by rw [hk w (Nat.le_refl _) (by omega)]; exact f1, g, by rw [hk (w + 1) (by omega) (by omega)]; exact f2, f3⟩, g2, g3, g4, g5, g6, fun j hj => ?_, fun i y hi => ?_⟩
  · obtain ⟨y, hy⟩ := g7 j hj
    exact ⟨y, hy.shape (hk _ (by omega) (by omega)) (hk _ (by omega) (by omega)) (hk _ (by omega) (by omega))⟩
  · exact (g8 i y hi).shape (hk _ (by omega) (by omega)) (hk _ (by omega) (by omega)) (hk _ (by omega) (by omega))
theorem nI_rem32 {k : Nat} (h : k < 2 ^ 20) : nI k - nI k / 32 * 32 = nI (k % 32) := pk_rem (a := k) (d := 32) (by omega) (by decide) (by decide)
section WAY
variable {cy : Nat → ClassId} {z0 : Nat} {ext : Nat → Nat → List Value → ev_H → Nat → ev_P → Prop} {d : Nat} {sh : fl_S} {V : fl_V} {n w h : Nat} {ps : List Pkt}
set_option maxRecDepth 100000 in
theorem e_Way_hasRoomFor {k : Nat} (hk : k < 2 ^ 20) (hW : Way sh V w h ps) : fl_M cy z0 ext (d + 1) m_X5_hasRoomFor [.ref (z0 + w), .int (nI k)] sh V n (fun v sh' V' n' => v = some (.int (bI (decide (ps.length + k ≤ 32)))) ∧ sh' = sh ∧ n' = n ∧ V' = V) := by
  obtain ⟨⟨f1, g, f2, f3⟩, g2, g3, g4, g5, g6, g7, g8⟩ := id hW
  refine fs_body rfl rfl (fun Ret hP => ?_)
  refine fs_aload_n (pc2 := 1) rfl rfl rfl rfl ?_
  refine fs_geti (pc2 := 4) rfl rfl rfl (by assumption) rfl ?_
  refine fs_iload_n (pc2 := 5) rfl rfl rfl rfl ?_
  refine fs_iadd (pc2 := 6) rfl rfl rfl ?_
  refine fs_bipush (pc2 := 8) rfl rfl rfl ?_
  refine fs_icmp_gt (pc2 := 11) rfl rfl rfl (fun h8 => ?_) (fun h8 => ?_)
  · refine fs_iconst (pc2 := 16) rfl rfl rfl ?_
    refine fs_iret rfl rfl (Or.inl rfl) ?_
    refine hP _ _ _ _ ⟨?_, rfl, rfl, rfl⟩
    rw [g5, nI_add] at h8
    rw [show decide (ps.length + k ≤ 32) = false from decide_eq_false (fun q => h8 (nI_le q (by decide)))]
    rfl
  · refine fs_iconst (pc2 := 12) rfl rfl rfl ?_
    refine fs_goto rfl rfl ?_
    refine fs_iret rfl rfl (Or.inr rfl) ?_
    refine hP _ _ _ _ ⟨?_, rfl, rfl, rfl⟩
    rw [g5, nI_add] at h8
    rw [show decide (ps.length + k ≤ 32) = true from decide_eq_true ((nI_leI (by omega) (by decide)).mp h8)]
    rfl
set_option maxRecDepth 100000 in
theorem e_Way_freeBuffers (hW : Way sh V w h ps) : fl_M cy z0 ext (d + 1) m_X5_freeBuffers [.ref (z0 + w)] sh V n (fun v sh' V' n' => v = some (.int (4 - nI (sents ps))) ∧ sh' = sh ∧ n' = n ∧ V' = V) := by
  obtain ⟨⟨f1, g, f2, f3⟩, g2, g3, g4, g5, g6, g7, g8⟩ := id hW
  refine fs_body rfl rfl (fun Ret hP => ?_)
  refine fs_iconst (pc2 := 1) rfl rfl rfl ?_
  refine fs_aload_n (pc2 := 2) rfl rfl rfl rfl ?_
  refine fs_geti (pc2 := 5) rfl rfl rfl (by assumption) rfl ?_
  refine fs_isub (pc2 := 6) rfl rfl rfl ?_
  refine fs_iret rfl rfl True.intro ?_
  exact hP _ _ _ _ ⟨by rw [g6], rfl, rfl, rfl⟩
set_option maxRecDepth 100000 in
theorem e_Way_firstPacket0 (hW : Way sh V w h []) : fl_M cy z0 ext (d + 1) m_X5_firstPacket [.ref (z0 + w)] sh V n (fun v sh' V' n' => v = some .null ∧ sh' = sh ∧ n' = n ∧ V' = V) := by
  obtain ⟨⟨f1, g, f2, f3⟩, g2, g3, g4, g5, g6, g7, g8⟩ := id hW
  refine fs_body rfl rfl (fun Ret hP => ?_)
  refine fs_aload_n (pc2 := 1) rfl rfl rfl rfl ?_
  refine fs_geti (pc2 := 4) rfl rfl rfl (by assumption) rfl ?_
  refine fs_if_le (pc2 := 7) rfl rfl rfl (fun h4 => ?_) (fun h4 => ?_)
  · refine fs_null (pc2 := 20) rfl rfl rfl ?_
    refine fs_aret (q := none) rfl rfl True.intro ?_
    exact hP _ _ _ _ ⟨rfl, rfl, rfl, rfl⟩
  · exact absurd (by rw [g5]; exact nI_0 ▸ Int32.le_refl _) h4
set_option maxRecDepth 100000 in
theorem e_Way_firstPacket {y : Pkt} (hW : Way sh V w h (y :: ps)) : fl_M cy z0 ext (d + 1) m_X5_firstPacket [.ref (z0 + w)] sh V n (fun v sh' V' n' => v = some (.ref (z0 + (w + 2 + 3 * h))) ∧ sh' = sh ∧ n' = n ∧ V' = V) := by
  obtain ⟨⟨f1, g, f2, f3⟩, g2, g3, g4, g5, g6, g7, g8⟩ := id hW
  simp only [List.length_cons] at g3 g5
  have i1 : vp_in (V w 1) 32 := by rw [g4]; exact vp_in_nI g2 (by decide)
  have i2 : g (V w 1).toNatClampNeg = some (w + 2 + 3 * h) := by rw [g4, nI_clamp (by omega)]; exact f3 h g2
  refine fs_body rfl rfl (fun Ret hP => ?_)
  refine fs_aload_n (pc2 := 1) rfl rfl rfl rfl ?_
  refine fs_geti (pc2 := 4) rfl rfl rfl (by assumption) rfl ?_
  refine fs_if_le (pc2 := 7) rfl rfl rfl (fun h4 => ?_) (fun h4 => ?_)
  · exact absurd (by rw [g5] at h4; exact h4) (nI_nle (by omega) (by omega))
  · refine fs_aload_n (pc2 := 8) rfl rfl rfl rfl ?_
    refine fs_getr (pc2 := 11) rfl rfl rfl (by assumption) rfl ?_
    refine fs_aload_n (pc2 := 12) rfl rfl rfl rfl ?_
    refine fs_geti (pc2 := 15) rfl rfl rfl (by assumption) rfl ?_
    refine fs_aald (pc2 := 16) rfl rfl rfl (by assumption) i1 i2 ?_
    refine fs_goto rfl rfl ?_
    refine fs_aret (q := some (w + 2 + 3 * h)) rfl rfl True.intro ?_
    exact hP _ _ _ _ ⟨rfl, rfl, rfl, rfl⟩
set_option maxRecDepth 100000 in
set_option maxHeartbeats 4000000 in
theorem e_Way_put {q room2 s : Nat} {ys : List Nat} {sn : Bool} (hW : Way sh V w h ps) (hq : Row sh V q room2 ys) (hs : s < 2 ^ 20) (hl : ps.length < 32) (hd : q + 1 < w ∨ w + 98 ≤ q) : fl_M cy z0 ext (d + 2) m_X5_put [.ref (z0 + w), .ref (z0 + q), .int (nI s), .int (bI sn)] sh V n (fun v sh' V' n' => v = none ∧ sh' = sh ∧ n' = n ∧ Way sh V' w h (ps ++ [(decide (s = 0), sn, (ys.drop s).take 27)]) ∧ ∀ a, (a < w ∨ w + 98 ≤ a) → V' a = V a) := by
  obtain ⟨⟨f1, g, f2, f3⟩, g2, g3, g4, g5, g6, g7, g8⟩ := id hW
  obtain ⟨j, hj⟩ : ∃ j, j = (h + ps.length) % 32 := ⟨_, rfl⟩
  have hj32 : j < 32 := by omega
  obtain ⟨p, hp⟩ : ∃ p, p = w + 2 + 3 * j := ⟨_, rfl⟩
  obtain ⟨y0, hy0⟩ := g7 j hj32
  rw [← hp] at hy0
  obtain ⟨k1, k2, k3, k4⟩ := id hy0
  obtain ⟨hw0, hw1⟩ := id k4.1
  have hpw : p ≠ w := by omega
  have fin : ∀ (V1 V' : fl_V) (mk : Bool) (zs : List Nat), Row sh V1 (p + 1) 27 zs → (∀ a, a ≠ p + 1 → a ≠ p + 2 → V1 a = V a) → V' p 1 = bI mk → V' p 2 = bI sn → V' w 1 = V1 w 1 → V' w 2 = nI (ps.length + 1) → V' w 3 = nI (sents ps + if sn then 1 else 0) → (∀ a, a ≠ p → a ≠ w → V' a = V1 a) → Way sh V' w h (ps ++ [(mk, sn, zs)]) ∧ ∀ a, (a < w ∨ w + 98 ≤ a) → V' a = V a := by
    intro V1 V' mk zs hr hk1 e1 e2 e3 e4 e5 hk2
    have far : ∀ a, a ≠ p → a ≠ p + 1 → a ≠ p + 2 → a ≠ w → V' a = V a := fun a n0 n1 n2 n3 => (hk2 a n0 n3).trans (hk1 a n1 n2)
    refine ⟨⟨⟨f1, g, f2, f3⟩, g2, by simp; omega, ?_, by simpa using e4, ?_, fun i hi => ?_, fun i y hi => ?_⟩, fun a ha => far a (by omega) (by omega) (by omega) (by omega)⟩
    · rw [e3, hk1 w (by omega) (by omega)]; exact g4
    · rw [e5]
      unfold sents
      rw [List.filter_append, List.length_append]
      cases sn <;> simp
    · by_cases hij : i = j
      · subst hij
        rw [← hp]
        exact ⟨(mk, sn, zs), k1, e1, e2, hr.kept (hk2 _ (by omega) (by omega)) (hk2 _ (by omega) (by omega))⟩
      · obtain ⟨y, hy⟩ := g7 i hi
        exact ⟨y, hy.kept (far _ (by omega) (by omega) (by omega) (by omega)) (far _ (by omega) (by omega) (by omega) (by omega)) (far _ (by omega) (by omega) (by omega) (by omega))⟩
    · by_cases hil : i < ps.length
      · rw [List.getElem?_append_left hil] at hi
        exact (g8 i y hi).kept (far _ (by omega) (by omega) (by omega) (by omega)) (far _ (by omega) (by omega) (by omega) (by omega)) (far _ (by omega) (by omega) (by omega) (by omega))
      · have hi2 : i = ps.length := by
          have := (List.getElem?_eq_some_iff.mp hi).1
          simp at this
          omega
        subst hi2
        rw [List.getElem?_append_right (Nat.le_refl _)] at hi
        simp at hi
        subst hi
        rw [← hj, ← hp]
        exact ⟨k1, e1, e2, hr.kept (hk2 _ (by omega) (by omega)) (hk2 _ (by omega) (by omega))⟩
  have e0 : V w 1 + V w 2 - (V w 1 + V w 2) / 32 * 32 = nI j := by rw [g4, g5, nI_add, nI_rem32 (by omega), ← hj]
  have i1 : vp_in (V w 1 + V w 2 - (V w 1 + V w 2) / 32 * 32) 32 := by rw [e0]; exact vp_in_nI hj32 (by decide)
  have i2 : g (V w 1 + V w 2 - (V w 1 + V w 2) / 32 * 32).toNatClampNeg = some p := by rw [e0, nI_clamp (by omega), hp]; exact f3 j hj32
  refine fs_body rfl rfl (fun Ret hP => ?_)
  refine fs_aload_n (pc2 := 1) rfl rfl rfl rfl ?_
  refine fs_geti (pc2 := 4) rfl rfl rfl (by assumption) rfl ?_
  refine fs_bipush (pc2 := 6) rfl rfl rfl ?_
  refine fs_icmp_ge (pc2 := 9) rfl rfl rfl (fun h6 => ?_) (fun h6 => ?_)
  · exact absurd (by rw [g5]; exact nI_lt hl (by decide)) h6
  · refine fs_aload_n (pc2 := 10) rfl rfl rfl rfl ?_
    refine fs_getr (pc2 := 13) rfl rfl rfl (by assumption) rfl ?_
    refine fs_aload_n (pc2 := 14) rfl rfl rfl rfl ?_
    refine fs_geti (pc2 := 17) rfl rfl rfl (by assumption) rfl ?_
    refine fs_aload_n (pc2 := 18) rfl rfl rfl rfl ?_
    refine fs_geti (pc2 := 21) rfl rfl rfl (by assumption) rfl ?_
    refine fs_iadd (pc2 := 22) rfl rfl rfl ?_
    refine fs_bipush (pc2 := 24) rfl rfl rfl ?_
    refine fs_irem (pc2 := 25) rfl rfl rfl (by decide) ?_
    refine fs_aald (pc2 := 26) rfl rfl rfl (by assumption) i1 i2 ?_
    refine fs_astore (pc2 := 28) rfl rfl rfl (Nat.le_of_ble_eq_true rfl) ?_
    refine fs_aload (pc2 := 30) rfl rfl rfl rfl ?_
    refine fs_getr (pc2 := 33) rfl rfl rfl (by assumption) rfl ?_
    refine fs_callv (pc2 := 36) rfl rfl rfl rfl ⟨rfl, rfl⟩ (Nat.le_of_ble_eq_true rfl) (Nat.le_of_ble_eq_true rfl) (Nat.le_of_ble_eq_true rfl) (fs_rcv rfl (by assumption)) (e_Row_clear k4) (fun v9 sh9 V9 n9 hp9 => ?_)
    obtain ⟨rfl, rfl, rfl, hr1, hk1⟩ := hp9
    refine fs_aload (pc2 := 38) rfl rfl rfl rfl ?_
    refine fs_getr (pc2 := 41) rfl rfl rfl (by assumption) rfl ?_
    refine fs_aload_n (pc2 := 42) rfl rfl rfl rfl ?_
    refine fs_iload_n (pc2 := 43) rfl rfl rfl rfl ?_
    refine fs_bipush (pc2 := 45) rfl rfl rfl ?_
    refine fs_callv (pc2 := 48) rfl rfl rfl rfl ⟨rfl, rfl⟩ (Nat.le_of_ble_eq_true rfl) (Nat.le_of_ble_eq_true rfl) (Nat.le_of_ble_eq_true rfl) (fs_rcv rfl (by assumption)) (e_Row_addPart hs (by decide) hr1 (hq.kept (hk1 q (by omega)) (hk1 (q + 1) (by omega))) (by omega) (by omega) (by omega) (by simp; omega)) (fun v9 sh9 V9 n9 hp9 => ?_)
    obtain ⟨rfl, rfl, rfl, hr2, hk2⟩ := hp9
    refine fs_aload (pc2 := 50) rfl rfl rfl rfl ?_
    refine fs_iload_n (pc2 := 51) rfl rfl rfl rfl ?_
    refine fs_if_ne (pc2 := 54) rfl rfl rfl (fun h51 => ?_) (fun h51 => ?_)
    · have hs0 : s ≠ 0 := fun z => h51 (by rw [z]; rfl)
      refine fs_iconst (pc2 := 59) rfl rfl rfl ?_
      refine fs_puti (pc2 := 62) rfl rfl rfl (by assumption) rfl (Or.inl rfl) ?_
      refine fs_aload (pc2 := 64) rfl rfl rfl rfl ?_
      refine fs_iload_n (pc2 := 65) rfl rfl rfl rfl ?_
      refine fs_puti (pc2 := 68) rfl rfl rfl (by assumption) rfl (bI_01 sn) ?_
      refine fs_aload_n (pc2 := 69) rfl rfl rfl rfl ?_
      first | refine fs_dup_r (pc2 := 70) rfl rfl rfl ?_ | refine fs_dup_i (pc2 := 70) rfl rfl rfl ?_
      refine fs_geti (pc2 := 73) rfl rfl rfl (by assumption) rfl ?_
      refine fs_iconst (pc2 := 74) rfl rfl rfl ?_
      refine fs_iadd (pc2 := 75) rfl rfl rfl ?_
      refine fs_puti (pc2 := 78) rfl rfl rfl (by assumption) rfl True.intro ?_
      refine fs_aload_n (pc2 := 79) rfl rfl rfl rfl ?_
      first | refine fs_dup_r (pc2 := 80) rfl rfl rfl ?_ | refine fs_dup_i (pc2 := 80) rfl rfl rfl ?_
      refine fs_geti (pc2 := 83) rfl rfl rfl (by assumption) rfl ?_
      refine fs_iload_n (pc2 := 84) rfl rfl rfl rfl ?_
      refine fs_if_eq (pc2 := 87) rfl rfl rfl (fun h84 => ?_) (fun h84 => ?_)
      · have hsn : sn = false := bI_0.mp h84
        refine fs_iconst (pc2 := 92) rfl rfl rfl ?_
        refine fs_iadd (pc2 := 93) rfl rfl rfl ?_
        refine fs_puti (pc2 := 96) rfl rfl rfl (by assumption) rfl True.intro ?_
        refine fs_ret rfl rfl ?_
        have hV : ∀ a, a ≠ p + 1 → a ≠ p + 2 → V9 a = V a := fun a n1 n2 => (hk2 a n1 n2).trans (hk1 a n1)
        have hw2 : V9 w = V w := hV w (by omega) (by omega)
        refine hP _ _ _ _ ⟨rfl, rfl, rfl, fin V9 _ (decide (s = 0)) _ hr2 hV ?_ ?_ ?_ ?_ ?_ ?_⟩
        all_goals first | (simp [up2, hpw, hpw.symm, hs0, hsn, bI, hw2, g5, g6, nI_1]; done) | (intro a n0 n3; rw [up2_o n3, up2_o n3, up2_o n0, up2_o n0])
      · have hsn : sn = true := by
          cases sn with
          | true => rfl
          | false => exact absurd rfl h84
        refine fs_iconst (pc2 := 88) rfl rfl rfl ?_
        refine fs_goto rfl rfl ?_
        refine fs_iadd (pc2 := 93) rfl rfl rfl ?_
        refine fs_puti (pc2 := 96) rfl rfl rfl (by assumption) rfl True.intro ?_
        refine fs_ret rfl rfl ?_
        have hV : ∀ a, a ≠ p + 1 → a ≠ p + 2 → V9 a = V a := fun a n1 n2 => (hk2 a n1 n2).trans (hk1 a n1)
        have hw2 : V9 w = V w := hV w (by omega) (by omega)
        refine hP _ _ _ _ ⟨rfl, rfl, rfl, fin V9 _ (decide (s = 0)) _ hr2 hV ?_ ?_ ?_ ?_ ?_ ?_⟩
        all_goals first | (simp [up2, hpw, hpw.symm, hs0, hsn, bI, hw2, g5, g6, nI_1]; done) | (intro a n0 n3; rw [up2_o n3, up2_o n3, up2_o n0, up2_o n0])
    · have hs0 : s = 0 := (nI_eq (a := s) (b := 0) (by omega) (by decide)).mp h51
      refine fs_iconst (pc2 := 55) rfl rfl rfl ?_
      refine fs_goto rfl rfl ?_
      refine fs_puti (pc2 := 62) rfl rfl rfl (by assumption) rfl (Or.inr rfl) ?_
      refine fs_aload (pc2 := 64) rfl rfl rfl rfl ?_
      refine fs_iload_n (pc2 := 65) rfl rfl rfl rfl ?_
      refine fs_puti (pc2 := 68) rfl rfl rfl (by assumption) rfl (bI_01 sn) ?_
      refine fs_aload_n (pc2 := 69) rfl rfl rfl rfl ?_
      first | refine fs_dup_r (pc2 := 70) rfl rfl rfl ?_ | refine fs_dup_i (pc2 := 70) rfl rfl rfl ?_
      refine fs_geti (pc2 := 73) rfl rfl rfl (by assumption) rfl ?_
      refine fs_iconst (pc2 := 74) rfl rfl rfl ?_
      refine fs_iadd (pc2 := 75) rfl rfl rfl ?_
      refine fs_puti (pc2 := 78) rfl rfl rfl (by assumption) rfl True.intro ?_
      refine fs_aload_n (pc2 := 79) rfl rfl rfl rfl ?_
      first | refine fs_dup_r (pc2 := 80) rfl rfl rfl ?_ | refine fs_dup_i (pc2 := 80) rfl rfl rfl ?_
      refine fs_geti (pc2 := 83) rfl rfl rfl (by assumption) rfl ?_
      refine fs_iload_n (pc2 := 84) rfl rfl rfl rfl ?_
      refine fs_if_eq (pc2 := 87) rfl rfl rfl (fun h84 => ?_) (fun h84 => ?_)
      · have hsn : sn = false := bI_0.mp h84
        refine fs_iconst (pc2 := 92) rfl rfl rfl ?_
        refine fs_iadd (pc2 := 93) rfl rfl rfl ?_
        refine fs_puti (pc2 := 96) rfl rfl rfl (by assumption) rfl True.intro ?_
        refine fs_ret rfl rfl ?_
        have hV : ∀ a, a ≠ p + 1 → a ≠ p + 2 → V9 a = V a := fun a n1 n2 => (hk2 a n1 n2).trans (hk1 a n1)
        have hw2 : V9 w = V w := hV w (by omega) (by omega)
        refine hP _ _ _ _ ⟨rfl, rfl, rfl, fin V9 _ (decide (s = 0)) _ hr2 hV ?_ ?_ ?_ ?_ ?_ ?_⟩
        all_goals first | (simp [up2, hpw, hpw.symm, hs0, hsn, bI, hw2, g5, g6, nI_1]; done) | (intro a n0 n3; rw [up2_o n3, up2_o n3, up2_o n0, up2_o n0])
      · have hsn : sn = true := by
          cases sn with
          | true => rfl
          | false => exact absurd rfl h84
        refine fs_iconst (pc2 := 88) rfl rfl rfl ?_
        refine fs_goto rfl rfl ?_
        refine fs_iadd (pc2 := 93) rfl rfl rfl ?_
        refine fs_puti (pc2 := 96) rfl rfl rfl (by assumption) rfl True.intro ?_
        refine fs_ret rfl rfl ?_
        have hV : ∀ a, a ≠ p + 1 → a ≠ p + 2 → V9 a = V a := fun a n1 n2 => (hk2 a n1 n2).trans (hk1 a n1)
        have hw2 : V9 w = V w := hV w (by omega) (by omega)
        refine hP _ _ _ _ ⟨rfl, rfl, rfl, fin V9 _ (decide (s = 0)) _ hr2 hV ?_ ?_ ?_ ?_ ?_ ?_⟩
        all_goals first | (simp [up2, hpw, hpw.symm, hs0, hsn, bI, hw2, g5, g6, nI_1]; done) | (intro a n0 n3; rw [up2_o n3, up2_o n3, up2_o n0, up2_o n0])
set_option maxRecDepth 100000 in
theorem e_Way_dropFirst0 (hW : Way sh V w h []) : fl_M cy z0 ext (d + 1) m_X5_dropFirst [.ref (z0 + w)] sh V n (fun v sh' V' n' => v = some (.int 0) ∧ sh' = sh ∧ n' = n ∧ V' = V) := by
  obtain ⟨⟨f1, g, f2, f3⟩, g2, g3, g4, g5, g6, g7, g8⟩ := id hW
  refine fs_body rfl rfl (fun Ret hP => ?_)
  refine fs_aload_n (pc2 := 1) rfl rfl rfl rfl ?_
  refine fs_geti (pc2 := 4) rfl rfl rfl (by assumption) rfl ?_
  refine fs_if_ne (pc2 := 7) rfl rfl rfl (fun h4 => ?_) (fun h4 => ?_)
  · exact absurd (by rw [g5]; rfl) h4
  · refine fs_iconst (pc2 := 8) rfl rfl rfl ?_
    refine fs_iret rfl rfl (Or.inl rfl) ?_
    exact hP _ _ _ _ ⟨rfl, rfl, rfl, rfl⟩
set_option maxRecDepth 100000 in
set_option maxHeartbeats 4000000 in
theorem e_Way_dropFirst {y : Pkt} (hW : Way sh V w h (y :: ps)) : fl_M cy z0 ext (d + 1) m_X5_dropFirst [.ref (z0 + w)] sh V n (fun v sh' V' n' => v = some (.int 1) ∧ sh' = sh ∧ n' = n ∧ (∃ h', Way sh V' w h' ps) ∧ ∀ a, a ≠ w → V' a = V a) := by
  obtain ⟨⟨f1, g, f2, f3⟩, g2, g3, g4, g5, g6, g7, g8⟩ := id hW
  simp only [List.length_cons] at g3 g5
  obtain ⟨k1, k2, k3, k4⟩ := g8 0 y rfl
  have e9 : (h + 0) % 32 = h := by omega
  rw [e9] at k1 k2 k3 k4
  have hs : sents (y :: ps) = sents ps + if y.2.1 then 1 else 0 := by
    unfold sents
    rw [List.filter_cons]
    split <;> simp_all
  have fin : ∀ (V' : fl_V), V' w 1 = nI ((h + 1) % 32) → V' w 2 = nI ps.length → V' w 3 = nI (sents ps) → (∀ a, a ≠ w → V' a = V a) → (∃ h', Way sh V' w h' ps) ∧ ∀ a, a ≠ w → V' a = V a := by
    intro V' e1 e2 e3 hk
    refine ⟨⟨(h + 1) % 32, ⟨f1, g, f2, f3⟩, by omega, by omega, e1, e2, e3, fun i hi => ?_, fun i z hi => ?_⟩, hk⟩
    · obtain ⟨z, hz⟩ := g7 i hi
      exact ⟨z, hz.kept (hk _ (by omega)) (hk _ (by omega)) (hk _ (by omega))⟩
    · have h8 := g8 (i + 1) z (by simpa using hi)
      rw [show ((h + 1) % 32 + i) % 32 = (h + (i + 1)) % 32 by omega]
      exact h8.kept (hk _ (by omega)) (hk _ (by omega)) (hk _ (by omega))
  have i1 : vp_in (V w 1) 32 := by rw [g4]; exact vp_in_nI g2 (by decide)
  have i2 : g (V w 1).toNatClampNeg = some (w + 2 + 3 * h) := by rw [g4, nI_clamp (by omega)]; exact f3 h g2
  have hrem : nI h + 1 - (nI h + 1) / 32 * 32 = nI ((h + 1) % 32) := by rw [nI_1, nI_rem32 (by omega)]
  refine fs_body rfl rfl (fun Ret hP => ?_)
  refine fs_aload_n (pc2 := 1) rfl rfl rfl rfl ?_
  refine fs_geti (pc2 := 4) rfl rfl rfl (by assumption) rfl ?_
  refine fs_if_ne (pc2 := 7) rfl rfl rfl (fun h4 => ?_) (fun h4 => ?_)
  · refine fs_aload_n (pc2 := 10) rfl rfl rfl rfl ?_
    first | refine fs_dup_r (pc2 := 11) rfl rfl rfl ?_ | refine fs_dup_i (pc2 := 11) rfl rfl rfl ?_
    refine fs_geti (pc2 := 14) rfl rfl rfl (by assumption) rfl ?_
    refine fs_aload_n (pc2 := 15) rfl rfl rfl rfl ?_
    refine fs_getr (pc2 := 18) rfl rfl rfl (by assumption) rfl ?_
    refine fs_aload_n (pc2 := 19) rfl rfl rfl rfl ?_
    refine fs_geti (pc2 := 22) rfl rfl rfl (by assumption) rfl ?_
    refine fs_aald (pc2 := 23) rfl rfl rfl (by assumption) i1 i2 ?_
    refine fs_geti (pc2 := 26) rfl rfl rfl (by assumption) rfl ?_
    refine fs_if_eq (pc2 := 29) rfl rfl rfl (fun h26 => ?_) (fun h26 => ?_)
    · have hy : y.2.1 = false := by
        rw [k3] at h26
        exact bI_0.mp h26
      rw [hy] at hs
      refine fs_iconst (pc2 := 34) rfl rfl rfl ?_
      refine fs_isub (pc2 := 35) rfl rfl rfl ?_
      refine fs_puti (pc2 := 38) rfl rfl rfl (by assumption) rfl True.intro ?_
      refine fs_aload_n (pc2 := 39) rfl rfl rfl rfl ?_
      refine fs_aload_n (pc2 := 40) rfl rfl rfl rfl ?_
      refine fs_geti (pc2 := 43) rfl rfl rfl (by assumption) rfl ?_
      refine fs_iconst (pc2 := 44) rfl rfl rfl ?_
      refine fs_iadd (pc2 := 45) rfl rfl rfl ?_
      refine fs_bipush (pc2 := 47) rfl rfl rfl ?_
      refine fs_irem (pc2 := 48) rfl rfl rfl (by decide) ?_
      refine fs_puti (pc2 := 51) rfl rfl rfl (by assumption) rfl True.intro ?_
      refine fs_aload_n (pc2 := 52) rfl rfl rfl rfl ?_
      first | refine fs_dup_r (pc2 := 53) rfl rfl rfl ?_ | refine fs_dup_i (pc2 := 53) rfl rfl rfl ?_
      refine fs_geti (pc2 := 56) rfl rfl rfl (by assumption) rfl ?_
      refine fs_iconst (pc2 := 57) rfl rfl rfl ?_
      refine fs_isub (pc2 := 58) rfl rfl rfl ?_
      refine fs_puti (pc2 := 61) rfl rfl rfl (by assumption) rfl True.intro ?_
      refine fs_iconst (pc2 := 62) rfl rfl rfl ?_
      refine fs_iret rfl rfl (Or.inr rfl) ?_
      refine hP _ _ _ _ ⟨rfl, rfl, rfl, fin _ ?_ ?_ ?_ ?_⟩
      · simp [up2, g4, hrem]
      · simp [up2, g5, nI_pred]
      · simp only [up2, if_true, if_false, g6, hs]
        simp [nI_pred]
      · intro a ha
        rw [up2_o ha, up2_o ha, up2_o ha]
    · have hy : y.2.1 = true := by
        rw [k3] at h26
        cases hb : y.2.1 with
        | true => rfl
        | false => rw [hb] at h26; exact absurd rfl h26
      rw [hy] at hs
      refine fs_iconst (pc2 := 30) rfl rfl rfl ?_
      refine fs_goto rfl rfl ?_
      refine fs_isub (pc2 := 35) rfl rfl rfl ?_
      refine fs_puti (pc2 := 38) rfl rfl rfl (by assumption) rfl True.intro ?_
      refine fs_aload_n (pc2 := 39) rfl rfl rfl rfl ?_
      refine fs_aload_n (pc2 := 40) rfl rfl rfl rfl ?_
      refine fs_geti (pc2 := 43) rfl rfl rfl (by assumption) rfl ?_
      refine fs_iconst (pc2 := 44) rfl rfl rfl ?_
      refine fs_iadd (pc2 := 45) rfl rfl rfl ?_
      refine fs_bipush (pc2 := 47) rfl rfl rfl ?_
      refine fs_irem (pc2 := 48) rfl rfl rfl (by decide) ?_
      refine fs_puti (pc2 := 51) rfl rfl rfl (by assumption) rfl True.intro ?_
      refine fs_aload_n (pc2 := 52) rfl rfl rfl rfl ?_
      first | refine fs_dup_r (pc2 := 53) rfl rfl rfl ?_ | refine fs_dup_i (pc2 := 53) rfl rfl rfl ?_
      refine fs_geti (pc2 := 56) rfl rfl rfl (by assumption) rfl ?_
      refine fs_iconst (pc2 := 57) rfl rfl rfl ?_
      refine fs_isub (pc2 := 58) rfl rfl rfl ?_
      refine fs_puti (pc2 := 61) rfl rfl rfl (by assumption) rfl True.intro ?_
      refine fs_iconst (pc2 := 62) rfl rfl rfl ?_
      refine fs_iret rfl rfl (Or.inr rfl) ?_
      refine hP _ _ _ _ ⟨rfl, rfl, rfl, fin _ ?_ ?_ ?_ ?_⟩
      · simp [up2, g4, hrem]
      · simp [up2, g5, nI_pred]
      · simp only [up2, if_true, if_false, g6, hs]
        simp [nI_pred]
      · intro a ha
        rw [up2_o ha, up2_o ha, up2_o ha]
  · exact absurd (by rw [g5] at h4; exact h4) (nI_ne0 (by omega) (by omega))
end WAY
