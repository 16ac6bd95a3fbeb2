/-! CreditLink: its store, its two hosts -/
def isCL (sh : fl_S) (c : Nat) : Prop := sh c = some (.inr (7, [some (some (c + 1)), some (some (c + 370)), some (some (c + 372))]))
def CL (sh : fl_S) (V : fl_V) (n K a0 c : Nat) (E : Nat → Nat) (R : Nat → List Nat) (S : List Nat) (HH : Nat → Ho) : Prop :=
  isCL sh c ∧ (∃ g, sh (c + 1) = some (.inl (5, 2, some (.inl g))) ∧ ∀ i, i < 2 → g i = some (c + 2 + 184 * i)) ∧ (∀ i, i < 2 → Host sh V n K a0 (c + 2 + 184 * i) (E i) (R i) (HH i)) ∧ Row sh V (c + 370) 120 S ∧ (∃ xs, Row sh V (c + 372) 124 xs) ∧ (E 0 = E 1 → E 0 = a0) ∧ a0 < c ∧ c + 374 ≤ K
/-- what a method of CreditLink leaves as it was -/
def FC (c K : Nat) (sh : fl_S) (V : fl_V) (n : Nat) (sh' : fl_S) (V' : fl_V) (n' : Nat) : Prop := n ≤ n' ∧ (∀ a, a < n → (a < c ∨ c + 374 ≤ a) → V' a = V a) ∧ ∀ a, a < K → (a < c ∨ c + 374 ≤ a) → sh' a = sh a
theorem FC.refl {c K n : Nat} {sh : fl_S} {V : fl_V} : FC c K sh V n sh V n := ⟨Nat.le_refl _, fun _ _ _ => rfl, fun _ _ _ => rfl⟩
theorem FC.trans {c K n n1 n2 : Nat} {sh sh1 sh2 : fl_S} {V V1 V2 : fl_V} (h : FC c K sh V n sh1 V1 n1) (g : FC c K sh1 V1 n1 sh2 V2 n2) : FC c K sh V n sh2 V2 n2 := ⟨Nat.le_trans h.1 g.1, fun a a1 a2 => by rw [g.2.1 a (Nat.lt_of_lt_of_le a1 h.1) a2, h.2.1 a a1 a2], fun a a1 a2 => by rw [g.2.2 a a1 a2, h.2.2 a a1 a2]⟩
theorem FC.same {c K n : Nat} {sh : fl_S} {V V' : fl_V} (h : ∀ a, (a < c ∨ c + 374 ≤ a) → V' a = V a) : FC c K sh V n sh V' n := ⟨Nat.le_refl _, fun a _ a2 => h a a2, fun _ _ _ => rfl⟩
section LINK
variable {sh sh' : fl_S} {V V' : fl_V} {n n' K a0 hb e c : Nat} {rs : List Nat} {H : Ho} {E : Nat → Nat} {R : Nat → List Nat} {S : List Nat} {HH : Nat → Ho}
/-- a host in a memory that has changed elsewhere; its way may be another one -/
theorem Host.move {h' : Nat} {W : List Pkt} (h : Host sh V n K a0 hb e rs H) (hn : n ≤ n') (hs : ∀ a, hb ≤ a → a < hb + 184 → sh' a = sh a) (he : sh' e = sh e) (ha : sh' a0 = sh a0) (hr : ∀ r ∈ rs, sh' r = sh r ∧ sh' (r + 1) = sh (r + 1)) (hv : ∀ a, (hb ≤ a ∧ a < hb + 81 ∨ hb + 179 ≤ a ∧ a < hb + 184 ∨ K ≤ a ∧ a < n) → V' a = V a) (hw : Way sh' V' (hb + 81) h' W) : Host sh' V' n' K a0 hb e rs (hoW H W) := by
  obtain ⟨⟨f1, ⟨g, f2, f3⟩, f4, f5, f6⟩, g2, g3, ⟨hh, g4⟩, g5, g6, g7, g8⟩ := h
  obtain ⟨q1, q2, q3, q4, q5, q6, q7, L, g', q8, q9, q10, q11, q12⟩ := g5
  refine ⟨⟨by unfold isHo; rw [hs hb (by omega) (by omega)]; exact f1, ⟨g, by rw [hs _ (by omega) (by omega)]; exact f2, f3⟩, f4, by omega, f6⟩, fun j hj => ⟨((g2 j hj).1.shape (fun a _ _ => hs a (by omega) (by omega))).kept (fun a _ _ => hv a (by omega)), (g2 j hj).2⟩, fun k hq => ⟨?_, fun i hi => ?_⟩, ⟨h', hw⟩, ⟨?_, by omega, q3, ?_, ?_, q6, ?_, L, g', ?_, q9, q10, q11, q12⟩, (g6.shape (hs _ (by omega) (by omega)) (hs _ (by omega) (by omega))).kept (hv _ (by omega)) (hv _ (by omega)), (g7.shape (hs _ (by omega) (by omega)) (hs _ (by omega) (by omega))).kept (hv _ (by omega)) (hv _ (by omega)), fun j hj => ?_⟩
  · rw [hs _ (by omega) (by omega)]; exact (g3 k hq).1
  · rw [hv _ (by omega)]; exact (g3 k hq).2 i hi
  · unfold eAl; rw [hs _ (by omega) (by omega)]; exact q1
  · unfold eAr; rw [ha]; exact q4
  · rw [hv _ (by omega)]; exact q5
  · intro i r x hi hx
    obtain ⟨a1, a2, a3⟩ := q7 i r x hi hx
    obtain ⟨r1, r2⟩ := hr r (List.mem_of_getElem? hi)
    exact ⟨(a1.shape r1 r2).kept (hv _ (by omega)) (hv _ (by omega)), a2, by omega⟩
  · unfold eAr; rw [he]; exact q8
  · rw [hv hb (by omega)]; exact g8 j hj
theorem Host.arr (h : Host sh V n K a0 hb e rs H) : ∃ L g, eAr e L g sh := by
  obtain ⟨L, g, q, _⟩ := h.2.2.2.2.1.2.2.2.2.2.2.2
  exact ⟨L, g, q⟩
theorem Host.rowOf (h : Host sh V n K a0 hb e rs H) {r : Nat} (hr : r ∈ rs) : ∃ x, Row sh V r 14 x ∧ K ≤ r ∧ r + 1 < n := by
  obtain ⟨g1, g2, g3, ⟨hh, g4⟩, g5, g6, g7, g8⟩ := h
  obtain ⟨i, hi⟩ := List.getElem?_of_mem hr
  have hl := (List.getElem?_eq_some_iff.mp hi).1
  have ln := g5.2.2.2.2.2.1
  exact ⟨_, g5.2.2.2.2.2.2.1 i r (H.2.2.2.2.1[i]'(by omega)) hi (List.getElem?_eq_getElem (by omega))⟩
theorem Host.self (h : Host sh V n K a0 hb e rs H) : hoW H H.2.2.2.1 = H := rfl
theorem CL.host (h : CL sh V n K a0 c E R S HH) {i : Nat} (hi : i < 2) : Host sh V n K a0 (c + 2 + 184 * i) (E i) (R i) (HH i) := h.2.2.1 i hi
/-- a host's method has been done -/
theorem CL.putB {i e' : Nat} {rs' : List Nat} {H' : Ho} (h : CL sh V n K a0 c E R S HH) (hi : i < 2) (hH : Host sh' V' n' K a0 (c + 2 + 184 * i) e' rs' H') (fr : Fr (c + 2 + 184 * i) a0 sh V n (E i) sh' V' n' e') : CL sh' V' n' K a0 c (va_up E i e') (va_up R i rs') S (va_up HH i H') ∧ FC c K sh V n sh' V' n' := by
  have hO := h.2.2.1 (1 - i) (by omega)
  have hM := h.2.2.1 i hi
  obtain ⟨g1, ⟨g, g2, g3⟩, g4, g5, ⟨xs, g6⟩, g7, g8, g9⟩ := id h
  obtain ⟨r1, r2, r3, r4⟩ := id fr
  obtain ⟨LM, gM, eM⟩ := hM.arr
  have eKM : E i = a0 ∨ K ≤ E i := hM.2.2.2.2.1.2.2.1
  have eKO : E (1 - i) = a0 ∨ K ≤ E (1 - i) := hO.2.2.2.2.1.2.2.1
  have eNO : E (1 - i) < n := hO.2.2.2.2.1.2.1
  have kn : K ≤ n := hM.1.2.2.2.1
  have s1 : ∀ a, a < K → a ≠ c + 2 + 184 * i + 179 → sh' a = sh a := fun a h1 h2 => r4 a (by omega) h2 (by omega)
  have hne : E (1 - i) ≠ E i ∨ E (1 - i) = a0 := by
    rcases Nat.lt_or_ge i 1 with z | z
    · have z0 : i = 0 := by omega
      subst z0
      by_cases q : E 0 = E 1
      · exact Or.inr (by rw [← g7 q]; exact q.symm)
      · exact Or.inl (Ne.symm q)
    · have z1 : i = 1 := by omega
      subst z1
      by_cases q : E 0 = E 1
      · exact Or.inr (g7 q)
      · exact Or.inl q
  have hO2 : Host sh' V' n' K a0 (c + 2 + 184 * (1 - i)) (E (1 - i)) (R (1 - i)) (HH (1 - i)) := by
    obtain ⟨h0, hw⟩ := hO.2.2.2.1
    refine hO.move r1 (fun a a1 a2 => s1 a (by omega) (by omega)) (r4 _ eNO (by omega) hne) (s1 a0 (by omega) (by omega)) (fun r hr => ?_) (fun a ha => r3 a (by omega) (by omega)) ((hw.shape (fun a a1 a2 => s1 a (by omega) (by omega))).kept (fun a a1 a2 => r3 a (by omega) (by omega)))
    obtain ⟨x, x1, x2, x3⟩ := hO.rowOf hr
    obtain ⟨n1, n2⟩ := x1.ne_e eM
    exact ⟨r4 _ (by omega) (by omega) (Or.inl n1), r4 _ (by omega) (by omega) (Or.inl n2)⟩
  refine ⟨⟨by unfold isCL; rw [s1 c (by omega) (by omega)]; exact g1, ⟨g, by rw [s1 _ (by omega) (by omega)]; exact g2, g3⟩, fun j hj => ?_, ?_, ⟨xs, ?_⟩, ?_, g8, g9⟩, r1, fun a a1 a2 => r3 a a1 (by omega), fun a a1 a2 => s1 a a1 (by omega)⟩
  · by_cases hji : j = i
    · subst hji
      rw [va_up_self, va_up_self, va_up_self]
      exact hH
    · rw [va_up_ne _ _ hji, va_up_ne _ _ hji, va_up_ne _ _ hji]
      have : j = 1 - i := by omega
      rw [this]
      exact hO2
  · exact (g5.shape (s1 _ (by omega) (by omega)) (s1 _ (by omega) (by omega))).kept (r3 _ (by omega) (by omega)) (r3 _ (by omega) (by omega))
  · exact (g6.shape (s1 _ (by omega) (by omega)) (s1 _ (by omega) (by omega))).kept (r3 _ (by omega) (by omega)) (r3 _ (by omega) (by omega))
  · intro q
    rcases Nat.lt_or_ge i 1 with z | z
    · have z0 : i = 0 := by omega
      subst z0
      simp only [va_up, if_true] at q ⊢
      rw [if_neg (by decide)] at q
      rcases r2 with r2 | r2
      · rw [r2] at q ⊢; exact g7 q
      · have eNO2 : E 1 < n := eNO
        rw [q] at r2
        exact absurd eNO2 (by omega)
    · have z1 : i = 1 := by omega
      subst z1
      simp only [va_up, if_true] at q ⊢
      rw [if_neg (by decide)] at q ⊢
      rcases r2 with r2 | r2
      · rw [r2] at q; exact g7 q
      · have eNO2 : E 0 < n := eNO
        rw [q] at eNO2
        exact absurd eNO2 (by omega)
theorem CL.putS {S' : List Nat} (h : CL sh V n K a0 c E R S HH) (hr : Row sh V' (c + 370) 120 S') (hk : ∀ a, a ≠ c + 370 → a ≠ c + 371 → V' a = V a) : CL sh V' n K a0 c E R S' HH ∧ FC c K sh V n sh V' n := by
  obtain ⟨g1, ⟨g, g2, g3⟩, g4, g5, ⟨xs, g6⟩, g7, g8, g9⟩ := id h
  refine ⟨⟨g1, ⟨g, g2, g3⟩, fun i hi => (g4 i hi).kept (fun a ha => hk a (by omega) (by omega)), hr, ⟨xs, g6.kept (hk _ (by omega) (by omega)) (hk _ (by omega) (by omega))⟩, g7, g8, g9⟩, FC.same (fun a ha => hk a (by omega) (by omega))⟩
theorem CL.putI {xs : List Nat} (h : CL sh V n K a0 c E R S HH) (hr : Row sh V' (c + 372) 124 xs) (hk : ∀ a, a ≠ c + 372 → a ≠ c + 373 → V' a = V a) : CL sh V' n K a0 c E R S HH ∧ FC c K sh V n sh V' n := by
  obtain ⟨g1, ⟨g, g2, g3⟩, g4, g5, _, g7, g8, g9⟩ := id h
  refine ⟨⟨g1, ⟨g, g2, g3⟩, fun i hi => (g4 i hi).kept (fun a ha => hk a (by omega) (by omega)), g5.kept (hk _ (by omega) (by omega)) (hk _ (by omega) (by omega)), ⟨xs, hr⟩, g7, g8, g9⟩, FC.same (fun a ha => hk a (by omega) (by omega))⟩
/-- one host sends on the other's way -/
def st_snd (HH : Nat → Ho) (i : Nat) : Nat → Ho := va_up (va_up HH i (ho_send (4 - sents (HH (1 - i)).2.2.2.1) (HH i) (HH (1 - i)).2.2.2.1).1) (1 - i) (hoW (HH (1 - i)) (ho_send (4 - sents (HH (1 - i)).2.2.2.1) (HH i) (HH (1 - i)).2.2.2.1).2)
def st_send (HH : Nat → Ho) : Nat → Ho := st_snd (st_snd HH 0) 1
/-- what sending asks of both -/
def SI2 (HH : Nat → Ho) : Prop := ∀ i, i < 2 → SI (HH i) ∧ sents (HH i).2.2.2.1 ≤ 4
theorem sents_add (ps : List Pkt) (y : Pkt) : sents (ps ++ [y]) ≤ sents ps + 1 := by
  unfold sents
  rw [List.filter_append, List.length_append]
  have := List.length_filter_le (fun y : Pkt => y.2.1) [y]
  simp at this ⊢
  omega
theorem ho_unit_way (H : Ho) : (ho_unit H).2.2.2.2.1 = H.2.2.2.1 := by
  unfold ho_unit
  repeat' split
  all_goals rfl
theorem ho_send_way : ∀ (f : Nat) (H : Ho) (ps : List Pkt), (ho_send f H ps).1.2.2.2.1 = H.2.2.2.1
  | 0, H, ps => by unfold ho_send; rfl
  | f + 1, H, ps => by
    unfold ho_send
    split
    · rfl
    · split
      · exact ho_unit_way H
      · rw [ho_send_way f]
        exact ho_unit_way H
theorem sents_send : ∀ (f : Nat) (H : Ho) (ps : List Pkt), sents (ho_send f H ps).2 ≤ sents ps + f
  | 0, H, ps => by simp [ho_send]
  | f + 1, H, ps => by
    unfold ho_send
    split
    · simp
    · split
      · simp
      · have h1 := sents_send f (ho_put (ho_unit H).2) (ps ++ [ho_pkt (ho_unit H).2])
        have h2 := sents_add ps (ho_pkt (ho_unit H).2)
        omega
theorem SI2.snd {HH : Nat → Ho} (h : SI2 HH) {i : Nat} (hi : i < 2) : SI2 (st_snd HH i) := by
  intro j hj
  have h0 := h i hi
  have h1 := h (1 - i) (by omega)
  have hs := sents_send (4 - sents (HH (1 - i)).2.2.2.1) (HH i) (HH (1 - i)).2.2.2.1
  unfold st_snd
  by_cases q : j = 1 - i
  · rw [q, va_up_self]
    refine ⟨h1.1, ?_⟩
    show sents (ho_send (4 - sents (HH (1 - i)).2.2.2.1) (HH i) (HH (1 - i)).2.2.2.1).2 ≤ 4
    omega
  · have q2 : j = i := by omega
    rw [va_up_ne _ _ q, q2, va_up_self]
    refine ⟨SI.send _ _ _ h0.1, ?_⟩
    rw [ho_send_way]
    exact h0.2
theorem SI2.send {HH : Nat → Ho} (h : SI2 HH) : SI2 (st_send HH) := (h.snd (i := 0) (by decide)).snd (i := 1) (by decide)
end LINK
