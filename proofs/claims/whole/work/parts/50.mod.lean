/-! CreditLinkModel: one object and 45 rows of ints; each place belongs to a part of the state -/
def moA : List (Nat × Nat) := [(1, 120), (2, 20), (1, 20), (1, 20), (1, 20), (1, 8), (1, 8), (1, 8), (1, 8), (1, 8), (1, 8), (1, 8), (1, 8), (1, 8), (1, 8), (1, 16), (1, 1920), (1, 8), (1, 8), (1, 8), (1, 1024), (1, 8), (1, 32), (1, 4096), (1, 2), (1, 2), (1, 4096), (1, 57344), (1, 2), (1, 2), (1, 2), (1, 2), (1, 320), (1, 2), (1, 64), (2, 64), (2, 64), (1, 1728), (1, 2), (1, 320), (1, 2), (1, 2), (1, 2), (1, 32), (1, 16)]
def isMo (sh : fl_S) (mb : Nat) : Prop := sh mb = some (.inr (8, [none, some (some (mb + 1)), none, some (some (mb + 2)), some (some (mb + 3)), some (some (mb + 4)), some (some (mb + 5)), some (some (mb + 6)), some (some (mb + 7)), some (some (mb + 8)), some (some (mb + 9)), some (some (mb + 10)), some (some (mb + 11)), some (some (mb + 12)), some (some (mb + 13)), some (some (mb + 14)), some (some (mb + 15)), some (some (mb + 16)), some (some (mb + 17)), some (some (mb + 18)), some (some (mb + 19)), some (some (mb + 20)), some (some (mb + 21)), some (some (mb + 22)), some (some (mb + 23)), some (some (mb + 24)), some (some (mb + 25)), some (some (mb + 26)), some (some (mb + 27)), some (some (mb + 28)), some (some (mb + 29)), some (some (mb + 30)), some (some (mb + 31)), some (some (mb + 32)), some (some (mb + 33)), some (some (mb + 34)), some (some (mb + 35)), some (some (mb + 36)), some (some (mb + 37)), some (some (mb + 38)), some (some (mb + 39)), some (some (mb + 40)), some (some (mb + 41)), some (some (mb + 42)), some (some (mb + 43)), some (some (mb + 44)), some (some (mb + 45)), none])) ∧ ∀ (j : Nat) (p : Nat × Nat), moA[j]? = some p → sh (mb + 1 + j) = some (.inl (p.1, p.2, none))
/-- whose a place is: 0 to 7 channels; 8, 9 numbers; 10, 11 services; 12, 13 ways; 14, 15 signals; 16, 17 units; 18, 19 what is gathered; 20 the store; 21 for a while -/
def own (j i : Nat) : Nat := if j = 0 then (if i = 2 then 20 else 21) else if j = 1 then 20 else if j ≤ 5 then 10 + i / 10 else if j ≤ 15 then i else if j = 16 then i / 2 else if j = 17 then i / 240 else if j ≤ 20 then i else if j = 21 then i / 128 else if j = 22 then i else if j = 23 then i / 4 else if j = 24 then i / 512 else if j ≤ 26 then 14 + i else if j = 27 then 14 + i / 2048 else if j = 28 then 14 + i / 28672 else if j ≤ 30 then 8 + i else if j ≤ 32 then 16 + i else if j = 33 then 16 + i / 160 else if j = 34 then 12 + i else if j ≤ 37 then 12 + i / 32 else if j = 38 then 12 + i / 864 else if j = 39 then 18 + i else if j = 40 then 18 + i / 160 else if j ≤ 43 then 8 + i else 21
def ML (r : Nat → Int32) (b0 : Nat) (xs : List Nat) : Prop := ∀ (j b : Nat), xs[j]? = some b → r (b0 + j) = nI b ∧ b < 256
def chO : List (Nat × Nat) := [(1, 6), (3, 7), (4, 8), (5, 9), (6, 10), (7, 11), (8, 12), (9, 13), (2, 14), (11, 18)]
def MC (V : fl_V) (mb c : Nat) (y : Ch) : Prop := (∀ q ∈ chO, V (mb + q.2) c = nI (y.1 q.1)) ∧ (∀ q ∈ chO, y.1 q.1 < 65536) ∧ V (mb + 19) c = dueI y.2.1 ∧ V (mb + 15) c = nI y.2.2.1.length ∧ y.2.2.1.length ≤ 2 ∧ (∀ (t : Nat) (x : List Nat), y.2.2.1[t]? = some x → V (mb + 16) (2 * c + t) = nI (x.length - 2) ∧ 2 ≤ x.length ∧ x.length ≤ 122 ∧ x = two (x.length - 2) ++ x.drop 2 ∧ ML (V (mb + 17)) (120 * (2 * c + t)) (x.drop 2)) ∧ V (mb + 20) c = nI y.2.2.2.2.length ∧ y.2.2.2.2.length ≤ 100 ∧ ML (V (mb + 21)) (128 * c) y.2.2.2.2 ∧ V (mb + 22) c = nI y.2.2.2.1.length ∧ y.2.2.2.1.length ≤ 4 ∧ ∀ (t : Nat) (x : List Nat), y.2.2.2.1[t]? = some x → V (mb + 23) (4 * c + t) = nI x.length ∧ x.length ≤ 100 ∧ ML (V (mb + 24)) (128 * (4 * c + t)) x
def MN (V : fl_V) (mb h : Nat) (N : Nat → Nat) : Prop := V (mb + 29) h = nI (if N 9 < 255 then N 9 + 1 else 1) ∧ N 9 ≤ 255 ∧ (∃ l, l < 4 ∧ V (mb + 30) h = nI l ∧ (l + 1) % 4 = N 10) ∧ V (mb + 41) h = nI (N 11) ∧ V (mb + 42) h = nI (N 12) ∧ V (mb + 43) h = nI (N 13)
def MV (V : fl_V) (mb h : Nat) (Sv : Nat → Nat → Nat) : Prop := ∀ s, s < 10 → V (mb + 2) (10 * h + s) = bI (decide (0 < Sv 0 s)) ∧ V (mb + 3) (10 * h + s) = nI (Sv 0 s) ∧ V (mb + 4) (10 * h + s) = nI (Sv 1 s) ∧ V (mb + 5) (10 * h + s) = nI (Sv 2 s) ∧ Sv 0 s < 65536 ∧ Sv 1 s < 65536 ∧ Sv 2 s < 65536
def MW (V : fl_V) (mb h : Nat) (W : List Pkt) : Prop := V (mb + 34) h = nI W.length ∧ W.length ≤ 32 ∧ ∀ (p : Nat) (y : Pkt), W[p]? = some y → V (mb + 35) (32 * h + p) = nI y.2.2.length ∧ V (mb + 36) (32 * h + p) = bI y.1 ∧ V (mb + 37) (32 * h + p) = bI y.2.1 ∧ y.2.2.length ≤ 27 ∧ ML (V (mb + 38)) (27 * (32 * h + p)) y.2.2
def MSg (V : fl_V) (mb h T : Nat) (Q : List (List Nat)) : Prop := ∃ fs, V (mb + 25) h = nI fs ∧ V (mb + 26) h = nI Q.length ∧ fs + Q.length ≤ T ∧ T ≤ 2048 ∧ ∀ (q : Nat) (x : List Nat), Q[q]? = some x → V (mb + 27) (2048 * h + fs + q) = nI x.length ∧ x.length ≤ 14 ∧ ML (V (mb + 28)) (14 * (2048 * h + fs + q)) x
def MU (V : fl_V) (mb h : Nat) (B : List Nat) (a : Nat) : Prop := V (mb + 31) h = nI B.length ∧ V (mb + 32) h = nI a ∧ B.length ≤ 128 ∧ a ≤ B.length ∧ ML (V (mb + 33)) (160 * h) B
def MG (V : fl_V) (mb h : Nat) (G : List Nat) : Prop := V (mb + 39) h = nI G.length ∧ G.length ≤ 128 ∧ ML (V (mb + 40)) (160 * h) G
def MS (V : fl_V) (mb : Nat) (S : List Nat) : Prop := V mb 2 = nI S.length ∧ S.length ≤ 120 ∧ ML (V (mb + 1)) 0 S
def MH (V : fl_V) (mb h T : Nat) (H : Ho) : Prop := MN V mb h H.1 ∧ MV V mb h H.2.2.1 ∧ MW V mb h H.2.2.2.1 ∧ MSg V mb h T H.2.2.2.2.1 ∧ MU V mb h H.2.2.2.2.2.1 (H.1 7) ∧ MG V mb h H.2.2.2.2.2.2 ∧ ∀ k, k < 4 → MC V mb (4 * h + k) (H.2.1 k)
def Mo (V : fl_V) (mb : Nat) (T : Nat → Nat) (S : List Nat) (HH : Nat → Ho) : Prop := MS V mb S ∧ ∀ h, h < 2 → MH V mb h (T h) (HH h)
/-- only places of o have changed -/
def FM (mb o : Nat) (V V' : fl_V) : Prop := ∀ j i, own j i ≠ o → V' (mb + j) i = V (mb + j) i
section MOD
variable {V V' : fl_V} {mb h c o T : Nat}
theorem FM.refl : FM mb o V V := fun _ _ _ => rfl
theorem FM.trans {V2 : fl_V} (h1 : FM mb o V V') (h2 : FM mb o V' V2) : FM mb o V V2 := fun j i q => (h2 j i q).trans (h1 j i q)
theorem FM.up {j i : Nat} {v : Int32} (hF : FM mb o V V') (ho : own j i = o) : FM mb o V (up2 V' (mb + j) i v) := by
  intro j2 i2 q
  rw [← hF j2 i2 q]
  unfold up2
  split
  · next e1 =>
    have ej : j2 = j := by omega
    subst ej
    split
    · next e2 => subst e2; exact absurd ho q
    · rfl
  · rfl
theorem ML.kept {r r' : Nat → Int32} {b0 : Nat} {xs : List Nat} (h : ML r b0 xs) (hk : ∀ j, j < xs.length → r' (b0 + j) = r (b0 + j)) : ML r' b0 xs := fun j b hj => by
  rw [hk j (List.getElem?_eq_some_iff.mp hj).1]
  exact h j b hj
theorem ML.at {r : Nat → Int32} {b0 j : Nat} {xs : List Nat} (h : ML r b0 xs) (hj : j < xs.length) : r (b0 + j) = nI (xs.getD j 0) ∧ xs.getD j 0 < 256 := by
  have := h j (xs.getD j 0) (by rw [List.getD_eq_getElem?_getD, List.getElem?_eq_getElem hj]; rfl)
  exact this
theorem MC.kept {y : Ch} (hM : MC V mb c y) (hc : c < 8) (hk : ∀ j i, own j i = c → V' (mb + j) i = V (mb + j) i) : MC V' mb c y := by
  obtain ⟨g1, g1b, g2, g3, g4, g5, g6, g7, g8, g9, g10, g11⟩ := hM
  refine ⟨fun q hq => ?_, g1b, ?_, ?_, g4, fun t x ht => ?_, ?_, g7, g8.kept (fun j hj => hk 21 _ (by simp only [own, if_neg, if_pos]; first | omega | simp; omega)), ?_, g10, fun t x ht => ?_⟩
  · rw [hk q.2 c ?_]
    · exact g1 q hq
    · simp [chO] at hq
      rcases hq with rfl | rfl | rfl | rfl | rfl | rfl | rfl | rfl | rfl | rfl <;> simp [own]
  · rw [hk 19 c (by simp [own])]; exact g2
  · rw [hk 15 c (by simp [own])]; exact g3
  · have lt : t < y.2.2.1.length := (List.getElem?_eq_some_iff.mp ht).1
    obtain ⟨a1, a2, a3, a4, a5⟩ := g5 t x ht
    refine ⟨by rw [hk 16 _ (by simp [own]; omega)]; exact a1, a2, a3, a4, a5.kept (fun j hj => hk 17 _ (by simp only [List.length_drop] at hj; simp [own]; omega))⟩
  · rw [hk 20 c (by simp [own])]; exact g6
  · rw [hk 22 c (by simp [own])]; exact g9
  · have lt : t < y.2.2.2.1.length := (List.getElem?_eq_some_iff.mp ht).1
    obtain ⟨a1, a2, a3⟩ := g11 t x ht
    refine ⟨by rw [hk 23 _ (by simp [own]; omega)]; exact a1, a2, a3.kept (fun j hj => hk 24 _ (by simp [own]; omega))⟩
theorem MN.kept {N : Nat → Nat} (hM : MN V mb h N) (hk : ∀ j i, own j i = 8 + h → V' (mb + j) i = V (mb + j) i) : MN V' mb h N := by
  obtain ⟨g1, g2, ⟨l, g3, g4, g5⟩, g6, g7, g8⟩ := hM
  exact ⟨by rw [hk 29 h (by simp [own])]; exact g1, g2, ⟨l, g3, by rw [hk 30 h (by simp [own])]; exact g4, g5⟩, by rw [hk 41 h (by simp [own])]; exact g6, by rw [hk 42 h (by simp [own])]; exact g7, by rw [hk 43 h (by simp [own])]; exact g8⟩
theorem MV.kept {Sv : Nat → Nat → Nat} (hM : MV V mb h Sv) (hk : ∀ j i, own j i = 10 + h → V' (mb + j) i = V (mb + j) i) : MV V' mb h Sv := by
  intro s hs
  obtain ⟨g1, g2, g3, g4, g5⟩ := hM s hs
  exact ⟨by rw [hk 2 _ (by simp [own]; omega)]; exact g1, by rw [hk 3 _ (by simp [own]; omega)]; exact g2, by rw [hk 4 _ (by simp [own]; omega)]; exact g3, by rw [hk 5 _ (by simp [own]; omega)]; exact g4, g5⟩
theorem MW.kept {W : List Pkt} (hM : MW V mb h W) (hk : ∀ j i, own j i = 12 + h → V' (mb + j) i = V (mb + j) i) : MW V' mb h W := by
  obtain ⟨g1, g2, g3⟩ := hM
  refine ⟨by rw [hk 34 h (by simp [own])]; exact g1, g2, fun p y hp => ?_⟩
  have lp : p < W.length := (List.getElem?_eq_some_iff.mp hp).1
  obtain ⟨a1, a2, a3, a4, a5⟩ := g3 p y hp
  exact ⟨by rw [hk 35 _ (by simp [own]; omega)]; exact a1, by rw [hk 36 _ (by simp [own]; omega)]; exact a2, by rw [hk 37 _ (by simp [own]; omega)]; exact a3, a4, a5.kept (fun j hj => hk 38 _ (by simp [own]; omega))⟩
theorem MSg.kept {Q : List (List Nat)} (hM : MSg V mb h T Q) (hk : ∀ j i, own j i = 14 + h → V' (mb + j) i = V (mb + j) i) : MSg V' mb h T Q := by
  obtain ⟨fs, g1, g2, g3, g4, g5⟩ := hM
  refine ⟨fs, by rw [hk 25 h (by simp [own])]; exact g1, by rw [hk 26 h (by simp [own])]; exact g2, g3, g4, fun q x hq => ?_⟩
  have lq : q < Q.length := (List.getElem?_eq_some_iff.mp hq).1
  obtain ⟨a1, a2, a3⟩ := g5 q x hq
  exact ⟨by rw [hk 27 _ (by simp [own]; omega)]; exact a1, a2, a3.kept (fun j hj => hk 28 _ (by simp [own]; omega))⟩
theorem MU.kept {B : List Nat} {a : Nat} (hM : MU V mb h B a) (hk : ∀ j i, own j i = 16 + h → V' (mb + j) i = V (mb + j) i) : MU V' mb h B a := by
  obtain ⟨g1, g2, g3, g4, g5⟩ := hM
  exact ⟨by rw [hk 31 h (by simp [own])]; exact g1, by rw [hk 32 h (by simp [own])]; exact g2, g3, g4, g5.kept (fun j hj => hk 33 _ (by simp [own]; omega))⟩
theorem MG.kept {G : List Nat} (hM : MG V mb h G) (hk : ∀ j i, own j i = 18 + h → V' (mb + j) i = V (mb + j) i) : MG V' mb h G := by
  obtain ⟨g1, g2, g3⟩ := hM
  exact ⟨by rw [hk 39 h (by simp [own])]; exact g1, g2, g3.kept (fun j hj => hk 40 _ (by simp [own]; omega))⟩
theorem MS.kept {S : List Nat} (hM : MS V mb S) (hk : ∀ j i, own j i = 20 → V' (mb + j) i = V (mb + j) i) : MS V' mb S := by
  obtain ⟨g1, g2, g3⟩ := hM
  exact ⟨by rw [show V' mb 2 = V mb 2 from hk 0 2 (by simp [own])]; exact g1, g2, g3.kept (fun j hj => hk 1 _ (by simp [own]))⟩
end MOD
section MOD2
variable {V V' : fl_V} {mb : Nat} {T : Nat → Nat} {S : List Nat} {HH : Nat → Ho}
theorem MH.kept {h t : Nat} {H : Ho} (hM : MH V mb h t H) (hh : h < 2) (hk : ∀ j i, (own j i = 8 + h ∨ own j i = 10 + h ∨ own j i = 12 + h ∨ own j i = 14 + h ∨ own j i = 16 + h ∨ own j i = 18 + h ∨ (4 * h ≤ own j i ∧ own j i < 4 * h + 4)) → V' (mb + j) i = V (mb + j) i) : MH V' mb h t H := by
  obtain ⟨g1, g2, g3, g4, g5, g6, g7⟩ := hM
  exact ⟨g1.kept (fun j i q => hk j i (by omega)), g2.kept (fun j i q => hk j i (by omega)), g3.kept (fun j i q => hk j i (by omega)), g4.kept (fun j i q => hk j i (by omega)), g5.kept (fun j i q => hk j i (by omega)), g6.kept (fun j i q => hk j i (by omega)), fun k hq => (g7 k hq).kept (by omega) (fun j i q => hk j i (by omega))⟩
/-- what is used for a while has changed -/
theorem Mo.tmp (hM : Mo V mb T S HH) (hF : FM mb 21 V V') : Mo V' mb T S HH := ⟨hM.1.kept (fun j i q => hF j i (by omega)), fun h hh => (hM.2 h hh).kept hh (fun j i q => hF j i (by omega))⟩
theorem Mo.putS {S' : List Nat} (hM : Mo V mb T S HH) (hS : MS V' mb S') (hF : FM mb 20 V V') : Mo V' mb T S' HH := ⟨hS, fun h hh => (hM.2 h hh).kept hh (fun j i q => hF j i (by omega))⟩
/-- a host's part is another one now -/
theorem Mo.putH {i o : Nat} {H' : Ho} (hM : Mo V mb T S HH) (hi : i < 2) (hF : FM mb o V V') (ho : o = 8 + i ∨ o = 10 + i ∨ o = 12 + i ∨ o = 14 + i ∨ o = 16 + i ∨ o = 18 + i ∨ (4 * i ≤ o ∧ o < 4 * i + 4)) (hH : MH V' mb i (T i) H') : Mo V' mb T S (va_up HH i H') := by
  refine ⟨hM.1.kept (fun j i q => hF j i (by omega)), fun h hh => ?_⟩
  by_cases q : h = i
  · subst q; rw [va_up_self]; exact hH
  · rw [va_up_ne _ _ q]
    exact (hM.2 h hh).kept hh (fun j i q => hF j i (by omega))
theorem MH.putN {i t : Nat} {H : Ho} {N : Nat → Nat} (hM : MH V mb i t H) (hi : i < 2) (hF : FM mb (8 + i) V V') (hN : MN V' mb i N) (h7 : N 7 = H.1 7) : MH V' mb i t (N, H.2) := by
  obtain ⟨g1, g2, g3, g4, g5, g6, g7⟩ := hM
  exact ⟨hN, g2.kept (fun j i q => hF j i (by omega)), g3.kept (fun j i q => hF j i (by omega)), g4.kept (fun j i q => hF j i (by omega)), by rw [show (N, H.2).1 7 = H.1 7 from h7]; exact g5.kept (fun j i q => hF j i (by omega)), g6.kept (fun j i q => hF j i (by omega)), fun k hq => (g7 k hq).kept (by omega) (fun j i q => hF j i (by omega))⟩
theorem MH.putC {i t k : Nat} {H : Ho} {y : Ch} (hM : MH V mb i t H) (hi : i < 2) (hk : k < 4) (hF : FM mb (4 * i + k) V V') (hy : MC V' mb (4 * i + k) y) : MH V' mb i t (hoC H k y) := by
  obtain ⟨g1, g2, g3, g4, g5, g6, g7⟩ := hM
  refine ⟨g1.kept (fun j i q => hF j i (by omega)), g2.kept (fun j i q => hF j i (by omega)), g3.kept (fun j i q => hF j i (by omega)), g4.kept (fun j i q => hF j i (by omega)), g5.kept (fun j i q => hF j i (by omega)), g6.kept (fun j i q => hF j i (by omega)), fun k2 hq => ?_⟩
  show MC V' mb (4 * i + k2) (va_up H.2.1 k y k2)
  by_cases q : k2 = k
  · subst q; rw [va_up_self]; exact hy
  · rw [va_up_ne _ _ q]
    exact (g7 k2 hq).kept (by omega) (fun j i q => hF j i (by omega))
theorem MH.putV {i t : Nat} {H : Ho} {Sv : Nat → Nat → Nat} (hM : MH V mb i t H) (hi : i < 2) (hF : FM mb (10 + i) V V') (hN : MV V' mb i Sv) : MH V' mb i t (hoS H Sv) := by
  obtain ⟨g1, g2, g3, g4, g5, g6, g7⟩ := hM
  exact ⟨g1.kept (fun j i q => hF j i (by omega)), hN, g3.kept (fun j i q => hF j i (by omega)), g4.kept (fun j i q => hF j i (by omega)), g5.kept (fun j i q => hF j i (by omega)), g6.kept (fun j i q => hF j i (by omega)), fun k hq => (g7 k hq).kept (by omega) (fun j i q => hF j i (by omega))⟩
theorem MH.putW {i t : Nat} {H : Ho} {W : List Pkt} (hM : MH V mb i t H) (hi : i < 2) (hF : FM mb (12 + i) V V') (hN : MW V' mb i W) : MH V' mb i t (hoW H W) := by
  obtain ⟨g1, g2, g3, g4, g5, g6, g7⟩ := hM
  exact ⟨g1.kept (fun j i q => hF j i (by omega)), g2.kept (fun j i q => hF j i (by omega)), hN, g4.kept (fun j i q => hF j i (by omega)), g5.kept (fun j i q => hF j i (by omega)), g6.kept (fun j i q => hF j i (by omega)), fun k hq => (g7 k hq).kept (by omega) (fun j i q => hF j i (by omega))⟩
theorem MH.putQ {i t t' : Nat} {H : Ho} {Q : List (List Nat)} (hM : MH V mb i t H) (hi : i < 2) (hF : FM mb (14 + i) V V') (hN : MSg V' mb i t' Q) : MH V' mb i t' (hoQ H Q) := by
  obtain ⟨g1, g2, g3, g4, g5, g6, g7⟩ := hM
  exact ⟨g1.kept (fun j i q => hF j i (by omega)), g2.kept (fun j i q => hF j i (by omega)), g3.kept (fun j i q => hF j i (by omega)), hN, g5.kept (fun j i q => hF j i (by omega)), g6.kept (fun j i q => hF j i (by omega)), fun k hq => (g7 k hq).kept (by omega) (fun j i q => hF j i (by omega))⟩
theorem MH.putU {i t a : Nat} {H : Ho} {B : List Nat} (hM : MH V mb i t H) (hi : i < 2) (hF : FM mb (16 + i) V V') (hN : MU V' mb i B a) : MH V' mb i t (hoB (hoN H 7 a) B) := by
  obtain ⟨g1, g2, g3, g4, g5, g6, g7⟩ := hM
  exact ⟨g1.kept (fun j i q => hF j i (by omega)), g2.kept (fun j i q => hF j i (by omega)), g3.kept (fun j i q => hF j i (by omega)), g4.kept (fun j i q => hF j i (by omega)), by show MU V' mb i B (va_up H.1 7 a 7); rw [va_up_self]; exact hN, g6.kept (fun j i q => hF j i (by omega)), fun k hq => (g7 k hq).kept (by omega) (fun j i q => hF j i (by omega))⟩
theorem MH.putG {i t : Nat} {H : Ho} {G : List Nat} (hM : MH V mb i t H) (hi : i < 2) (hF : FM mb (18 + i) V V') (hN : MG V' mb i G) : MH V' mb i t (hoG H G) := by
  obtain ⟨g1, g2, g3, g4, g5, g6, g7⟩ := hM
  exact ⟨g1.kept (fun j i q => hF j i (by omega)), g2.kept (fun j i q => hF j i (by omega)), g3.kept (fun j i q => hF j i (by omega)), g4.kept (fun j i q => hF j i (by omega)), g5.kept (fun j i q => hF j i (by omega)), hN, fun k hq => (g7 k hq).kept (by omega) (fun j i q => hF j i (by omega))⟩
end MOD2
