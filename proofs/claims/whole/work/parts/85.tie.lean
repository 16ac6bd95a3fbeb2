/-! WHAT HOLDS BETWEEN THE CALLS -/
def JJ (t : Nat) (HH : Nat → Ho) : Prop := ∀ i, i < 2 → HV (HH i) ∧ sents (HH i).2.2.2.1 ≤ 4 ∧ (HH i).2.2.2.2.1.length ≤ t
def JI (t : Nat) (HH : Nat → Ho) : Prop := DN HH ∧ JJ t HH
section JIS
variable {t : Nat} {HH : Nat → Ho} {H' : Ho} {i k : Nat}
theorem JJ.si2 (h : JJ t HH) : SI2 HH := fun i hi => ⟨(h i hi).1.si, (h i hi).2.1⟩
theorem JJ.mono {t' : Nat} (h : JJ t HH) (ht : t ≤ t') : JJ t' HH := fun i hi => ⟨(h i hi).1, (h i hi).2.1, Nat.le_trans (h i hi).2.2 ht⟩
theorem JI.mono (h : JI t HH) : JI (t + 1) HH := ⟨h.1, h.2.mono (Nat.le_succ _)⟩
theorem JJ.up (h : JJ t HH) (hv : HV H') (hs : sents H'.2.2.2.1 ≤ 4) (hq : H'.2.2.2.2.1.length ≤ t) : JJ t (va_up HH i H') := by
  intro j hj
  by_cases q : j = i
  · subst q; rw [va_up_self]; exact ⟨hv, hs, hq⟩
  · rw [va_up_ne _ _ q]; exact h j hj
theorem JJ.snd (h : JJ t HH) (hi : i < 2) : JJ t (st_snd HH i) := by
  have s2 := (h.si2).snd hi
  intro j hj
  refine ⟨?_, (s2 j hj).2, ?_⟩
  · unfold st_snd
    by_cases q : j = 1 - i
    · rw [q, va_up_self]; exact (h (1 - i) (by omega)).1.w
    · rw [va_up_ne _ _ q, show j = i by omega, va_up_self]; exact HV.send _ _ _ (h i hi).1
  · unfold st_snd
    by_cases q : j = 1 - i
    · rw [q, va_up_self]; exact (h (1 - i) (by omega)).2.2
    · rw [va_up_ne _ _ q, show j = i by omega, va_up_self]; exact Nat.le_trans (Q_send _ _ _) (h i hi).2.2
theorem JJ.send (h : JJ t HH) : JI t (st_send HH) := ⟨send_DN HH h.si2, (h.snd (i := 0) (by decide)).snd (i := 1) (by decide)⟩
theorem DN.up (h : DN HH) (hi : i < 2) (hu : (ho_unit H').1 = (ho_unit (HH i)).1) (hw : ∀ O, dn O (HH i).2.2.2.1 → dn O H'.2.2.2.1) : DN (va_up HH i H') := by
  have hd : ∀ ps, dn (HH i) ps → dn H' ps := fun ps z => by unfold dn at z ⊢; rw [hu]; exact z
  rcases (by omega : i = 0 ∨ i = 1) with rfl | rfl
  · refine ⟨?_, ?_⟩
    · rw [va_up_self, va_up_ne _ _ (by decide)]; exact hd _ h.1
    · rw [va_up_self, va_up_ne _ _ (by decide)]; exact hw _ h.2
  · refine ⟨?_, ?_⟩
    · rw [va_up_self, va_up_ne _ _ (by decide)]; exact hw _ h.1
    · rw [va_up_self, va_up_ne _ _ (by decide)]; exact hd _ h.2
theorem ho_unit_as {H H2 : Ho} (h7 : H2.1 7 = H.1 7) (hB : H2.2.2.2.2.2.1 = H.2.2.2.2.2.1) (hQ : H2.2.2.2.2.1 = H.2.2.2.2.1) (hN : ho_next H2 = ho_next H) : (ho_unit H2).1 = (ho_unit H).1 := by
  unfold ho_unit
  rw [h7, hB, hQ, hN]
  by_cases q : H.1 7 < H.2.2.2.2.2.1.length
  · rw [if_pos q, if_pos q]
  · rw [if_neg q, if_neg q]
    cases H.2.2.2.2.1 with
    | cons x qs => rfl
    | nil =>
      dsimp only
      cases ho_next H <;> rfl
theorem ho_next_rx {H : Ho} {rx : List (List Nat)} : ho_next (hoC H k (rxDrop (H.2.1 k) rx)) = ho_next H := by
  have e : ∀ j, ch_seg (va_up H.2.1 k (rxDrop (H.2.1 k) rx) j) = ch_seg (H.2.1 j) := fun j => by
    by_cases q : j = k
    · subst q; rw [va_up_self]; rfl
    · rw [va_up_ne _ _ q]
  show first4 (fun i => ch_seg (va_up H.2.1 k (rxDrop (H.2.1 k) rx) ((H.1 10 + i) % 4))) = _
  unfold ho_next
  congr 1
  funext i
  exact e _
theorem sents_inj (ps : List Pkt) (U : List Nat) (n : Nat) : sents (ps ++ (List.range n).map (injPk U)) = sents ps := by
  unfold sents
  rw [List.filter_append, List.length_append]
  have : (((List.range n).map (injPk U)).filter (fun y : Pkt => y.2.1)) = [] := by
    rw [List.filter_eq_nil_iff]
    intro y hy
    obtain ⟨j, -, rfl⟩ := List.mem_map.mp hy
    show ¬ (false = true)
    decide
  rw [this]
  rfl
theorem sents_tl {y : Pkt} {ps : List Pkt} (h : sents (y :: ps) ≤ 4) : sents ps ≤ 4 := by
  unfold sents at h ⊢
  rw [List.filter_cons] at h
  split at h
  · simp at h; omega
  · exact h
theorem nat_of {v : Int32} {a b : Nat} (ha : a < 2 ^ 31) (hb : b < 2 ^ 31) (h : isInB v (nI a) (nI b) = true) : ∃ r, a ≤ r ∧ r ≤ b ∧ v = nI r := by
  obtain ⟨h1, h2⟩ := of_decide_eq_true h
  rw [Int32.lt_iff_toInt_lt, nI_toInt ha] at h1
  rw [Int32.le_iff_toInt_le, nI_toInt hb] at h2
  refine ⟨v.toInt.toNat, by omega, by omega, ?_⟩
  apply Int32.toInt_inj.mp
  rw [nI_toInt (by omega)]
  omega
theorem hostB_M (u : Int32) : isHostB u = isHostM u := by
  unfold isHostB isHostM
  rw [decide_eq_decide]
  constructor
  · rintro ⟨h1, h2⟩
    rw [Int32.lt_iff_toInt_lt] at h1 h2
    have e0 : (0 : Int32).toInt = 0 := by decide
    have e2 : (2 : Int32).toInt = 2 := by decide
    rw [e0] at h1
    rw [e2] at h2
    rcases (by omega : u.toInt = 0 ∨ u.toInt = 1) with z | z
    · exact Or.inl (Int32.toInt_inj.mp (z.trans (by decide)))
    · exact Or.inr (Int32.toInt_inj.mp (z.trans (by decide)))
  · rintro (rfl | rfl) <;> decide
theorem chB_in (w : Int32) : isChB w = isInB w 64 67 := by
  unfold isChB isInB
  rw [decide_eq_decide, Int32.lt_iff_toInt_lt, Int32.lt_iff_toInt_lt, Int32.le_iff_toInt_le]
  have e0 : (68 : Int32).toInt = 68 := by decide
  have e2 : (67 : Int32).toInt = 67 := by decide
  rw [e0, e2]
  omega
theorem toldB (u s m p c : Int32) : isToldB u s m p c = (isHostB u && isOfferB s m p c) := by
  rw [hostB_M]
  show (isHostM u && isInB s 1 9 && isInB m 23 100 && isInB p 23 100 && isInB c 0 1000) = _
  unfold isInB isOfferB
  rw [Bool.eq_iff_iff]
  simp only [Bool.and_eq_true, decide_eq_true_eq, and_assoc]
theorem host_of {u : Int32} (h : isHostB u = true) : ∃ i, i < 2 ∧ u = nI i := by
  rw [hostB_M] at h
  rcases of_decide_eq_true h with rfl | rfl
  · exact ⟨0, by decide, rfl⟩
  · exact ⟨1, by decide, rfl⟩
theorem ch_of {w : Int32} (h : isChB w = true) : ∃ k, k < 4 ∧ w = nI (64 + k) := by
  rw [chB_in] at h
  obtain ⟨r, h1, h2, h3⟩ := nat_of (a := 64) (b := 67) (by decide) (by decide) h
  exact ⟨r - 64, by omega, by rw [h3]; congr 1; omega⟩
theorem offer_of {s m p c : Int32} (h : isOfferB s m p c = true) : ∃ s' m' p' c', s = nI s' ∧ m = nI m' ∧ p = nI p' ∧ c = nI c' ∧ (1 ≤ s' ∧ s' ≤ 9) ∧ (23 ≤ m' ∧ m' ≤ 100) ∧ (23 ≤ p' ∧ p' ≤ 100) ∧ c' ≤ 1000 := by
  obtain ⟨a1, a2, a3, a4, a5, a6, a7, a8⟩ := of_decide_eq_true h
  obtain ⟨s', b1, b2, b3⟩ := nat_of (a := 1) (b := 9) (by decide) (by decide) (decide_eq_true ⟨a1, a2⟩)
  obtain ⟨m', c1, c2, c3⟩ := nat_of (a := 23) (b := 100) (by decide) (by decide) (decide_eq_true ⟨a3, a4⟩)
  obtain ⟨p', d1, d2, d3⟩ := nat_of (a := 23) (b := 100) (by decide) (by decide) (decide_eq_true ⟨a5, a6⟩)
  obtain ⟨c', e1, e2, e3⟩ := nat_of (a := 0) (b := 1000) (by decide) (by decide) (decide_eq_true ⟨a7, a8⟩)
  exact ⟨s', m', p', c', b3, c3, d3, e3, ⟨b1, b2⟩, ⟨c1, c2⟩, ⟨d1, d2⟩, e2⟩
end JIS
