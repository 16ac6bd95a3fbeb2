/-! changes of the model's parts -/
def OU (mb : Nat) (V V' : fl_V) : Prop := ∀ a, (a < mb ∨ mb + 46 ≤ a) → V' a = V a
/-- a run of places of one row is another one -/
def cpV (V : fl_V) (A b i : Nat) (f : Nat → Int32) : fl_V := fun a j => if a = A ∧ b ≤ j ∧ j < b + i then f (j - b) else V a j
theorem up2_s {V : fl_V} {k j : Nat} {v : Int32} : up2 V k j v k j = v := by simp [up2]
theorem up2_i {V : fl_V} {k j i : Nat} {v : Int32} (h : i ≠ j) : up2 V k j v k i = V k i := by simp [up2, h]
theorem cpV_o {V : fl_V} {A b i a : Nat} {f : Nat → Int32} (h : a ≠ A) : cpV V A b i f a = V a := by funext j; simp [cpV, h]
theorem cpV_s {V : fl_V} {A b i j : Nat} {f : Nat → Int32} (h : b ≤ j ∧ j < b + i) : cpV V A b i f A j = f (j - b) := by simp [cpV, h]
theorem cpV_i {V : fl_V} {A b i j : Nat} {f : Nat → Int32} (h : j < b ∨ b + i ≤ j) : cpV V A b i f A j = V A j := by
  unfold cpV; rw [if_neg (by omega)]
theorem cpV_0 {V : fl_V} {A b : Nat} {f : Nat → Int32} : cpV V A b 0 f = V := by
  funext a j; unfold cpV; rw [if_neg (by omega)]
theorem cpV_1 {V : fl_V} {A b i : Nat} {f : Nat → Int32} {v : Int32} (h : v = f i) : up2 (cpV V A b i f) A (b + i) v = cpV V A b (i + 1) f := by
  funext a j
  unfold up2
  split
  · next e => subst e
              split
              · next e2 => subst e2; rw [cpV_s (by omega), h]; congr 1; omega
              · by_cases q : b ≤ j ∧ j < b + i
                · rw [cpV_s q, cpV_s (by omega)]
                · rw [cpV_i (by omega), cpV_i (by omega)]
  · next e => rw [cpV_o e, cpV_o e]
theorem pk_rem4 {a : Nat} (h : a < 2 ^ 31) : nI a - nI a / nI 4 * nI 4 = nI (a % 4) := pk_rem h (by decide) (by decide)
theorem va_up_swap {α : Type} {f : Nat → α} {i j : Nat} {a b : α} (h : i ≠ j) : va_up (va_up f i a) j b = va_up (va_up f j b) i a := by
  funext k
  unfold va_up
  by_cases q : k = i
  · subst q; rw [if_neg (by omega), if_pos rfl, if_pos rfl]
  · by_cases q2 : k = j
    · subst q2; rw [if_pos rfl, if_neg (by omega), if_pos rfl]
    · rw [if_neg q2, if_neg q, if_neg q, if_neg q2]
theorem va_up_id {α : Type} {f : Nat → α} {i : Nat} : va_up f i (f i) = f := by
  funext k
  unfold va_up
  split
  · next e => rw [e]
  · rfl
section MPUT
variable {V V' V2 : fl_V} {mb h k o : Nat} {T : Nat → Nat} {S : List Nat} {HH : Nat → Ho} {H H' : Ho} {y : Ch}
theorem OU.refl : OU mb V V := fun _ _ => rfl
theorem OU.up {j i : Nat} {v : Int32} (hO : OU mb V V') (hj : j < 46) : OU mb V (up2 V' (mb + j) i v) := fun a ha => (up2_o (by omega)).trans (hO a ha)
theorem OU.cp {j b i : Nat} {f : Nat → Int32} (hO : OU mb V V') (hj : j < 46) : OU mb V (cpV V' (mb + j) b i f) := fun a ha => (cpV_o (by omega)).trans (hO a ha)
theorem OU.trans (h1 : OU mb V V') (h2 : OU mb V' V2) : OU mb V V2 := fun a ha => (h2 a ha).trans (h1 a ha)
theorem OU.up0 {i : Nat} {v : Int32} (hO : OU mb V V') : OU mb V (up2 V' mb i v) := fun a ha => (up2_o (by omega)).trans (hO a ha)
/-- fault, hand and all that is not the model's are as they were -/
def KP (mb : Nat) (V V' : fl_V) : Prop := V' mb 0 = V mb 0 ∧ V' (mb + 44) = V (mb + 44) ∧ OU mb V V'
theorem KP.refl : KP mb V V := ⟨rfl, rfl, OU.refl⟩
theorem KP.trans (h1 : KP mb V V') (h2 : KP mb V' V2) : KP mb V V2 := ⟨h2.1.trans h1.1, h2.2.1.trans h1.2.1, h1.2.2.trans h2.2.2⟩
theorem KP.up {j i : Nat} {v : Int32} (h : KP mb V V') (hj : 0 < j ∧ j < 46 ∧ j ≠ 44) : KP mb V (up2 V' (mb + j) i v) := ⟨by rw [up2_o (by omega)]; exact h.1, by rw [up2_o (by omega)]; exact h.2.1, h.2.2.up hj.2.1⟩
theorem KP.cp {j b i : Nat} {f : Nat → Int32} (h : KP mb V V') (hj : 0 < j ∧ j < 46 ∧ j ≠ 44) : KP mb V (cpV V' (mb + j) b i f) := ⟨by rw [cpV_o (by omega)]; exact h.1, by rw [cpV_o (by omega)]; exact h.2.1, h.2.2.cp hj.2.1⟩
theorem FM.cp {j b i : Nat} {f : Nat → Int32} (hF : FM mb o V V') (ho : ∀ x, b ≤ x → x < b + i → own j x = o) : FM mb o V (cpV V' (mb + j) b i f) := by
  intro j2 i2 q
  rw [← hF j2 i2 q]
  by_cases e : mb + j2 = mb + j
  · have ej : j2 = j := by omega
    subst ej
    by_cases q2 : b ≤ i2 ∧ i2 < b + i
    · exact absurd (ho i2 q2.1 q2.2) q
    · rw [cpV_i (by omega)]
  · rw [cpV_o e]
theorem Mo.host (hM : Mo V mb T S (va_up HH h H)) (hh : h < 2) : MH V mb h (T h) H := by
  have := hM.2 h hh
  rwa [va_up_self] at this
theorem Mo.pH (hM : Mo V mb T S (va_up HH h H)) (hh : h < 2) (hF : FM mb o V V') (ho : o = 8 + h ∨ o = 10 + h ∨ o = 12 + h ∨ o = 14 + h ∨ o = 16 + h ∨ o = 18 + h ∨ (4 * h ≤ o ∧ o < 4 * h + 4)) (hH : MH V' mb h (T h) H') : Mo V' mb T S (va_up HH h H') := by
  have := hM.putH hh hF ho hH
  rwa [va_up2] at this
theorem Mo.pC (hM : Mo V mb T S (va_up HH h H)) (hh : h < 2) (hk : k < 4) (hF : FM mb (4 * h + k) V V') (hy : MC V' mb (4 * h + k) y) : Mo V' mb T S (va_up HH h (hoC H k y)) := hM.pH hh hF (by omega) ((hM.host hh).putC hh hk hF hy)
theorem Mo.pN {N : Nat → Nat} (hM : Mo V mb T S (va_up HH h H)) (hh : h < 2) (hF : FM mb (8 + h) V V') (hN : MN V' mb h N) (h7 : N 7 = H.1 7) : Mo V' mb T S (va_up HH h (N, H.2)) := hM.pH hh hF (by omega) ((hM.host hh).putN hh hF hN h7)
theorem Mo.pV {Sv : Nat → Nat → Nat} (hM : Mo V mb T S (va_up HH h H)) (hh : h < 2) (hF : FM mb (10 + h) V V') (hN : MV V' mb h Sv) : Mo V' mb T S (va_up HH h (hoS H Sv)) := hM.pH hh hF (by omega) ((hM.host hh).putV hh hF hN)
theorem Mo.pW {W : List Pkt} (hM : Mo V mb T S (va_up HH h H)) (hh : h < 2) (hF : FM mb (12 + h) V V') (hN : MW V' mb h W) : Mo V' mb T S (va_up HH h (hoW H W)) := hM.pH hh hF (by omega) ((hM.host hh).putW hh hF hN)
theorem Mo.pQ {Q : List (List Nat)} (hM : Mo V mb T S (va_up HH h H)) (hh : h < 2) (hF : FM mb (14 + h) V V') (hN : MSg V' mb h (T h) Q) : Mo V' mb T S (va_up HH h (hoQ H Q)) := hM.pH hh hF (by omega) ((hM.host hh).putQ hh hF hN)
theorem Mo.pU {B : List Nat} {a : Nat} (hM : Mo V mb T S (va_up HH h H)) (hh : h < 2) (hF : FM mb (16 + h) V V') (hN : MU V' mb h B a) : Mo V' mb T S (va_up HH h (hoB (hoN H 7 a) B)) := hM.pH hh hF (by omega) ((hM.host hh).putU hh hF hN)
theorem Mo.pG {G : List Nat} (hM : Mo V mb T S (va_up HH h H)) (hh : h < 2) (hF : FM mb (18 + h) V V') (hN : MG V' mb h G) : Mo V' mb T S (va_up HH h (hoG H G)) := hM.pH hh hF (by omega) ((hM.host hh).putG hh hF hN)
theorem Mo.mono {T' : Nat → Nat} (hM : Mo V mb T S HH) (ht : ∀ i, i < 2 → T i ≤ T' i ∧ T' i ≤ 2048) : Mo V mb T' S HH := by
  refine ⟨hM.1, fun i hi => ?_⟩
  obtain ⟨g1, g2, g3, ⟨fs, q1, q2, q3, q4, q5⟩, g5⟩ := hM.2 i hi
  have := ht i hi
  exact ⟨g1, g2, g3, ⟨fs, q1, q2, by omega, by omega, q5⟩, g5⟩
theorem chO_1 : ∀ q ∈ chO, ∀ p ∈ chO, (q.2 = p.2 ↔ q.1 = p.1) := by decide
theorem chO_2 : ∀ q ∈ chO, q.2 ≤ 14 ∨ q.2 = 18 := by decide
theorem chO_3 : ∀ q ∈ chO, 6 ≤ q.2 := by decide
theorem MC.pI {c : Nat} (hM : MC V mb c y) (q : Nat × Nat) {v : Nat} (hq : q ∈ chO) (hv : v < 65536) : MC (up2 V (mb + q.2) c (nI v)) mb c (va_up y.1 q.1 v, y.2) := by
  obtain ⟨g1, g1b, g2, g3, g4, g5, g6, g7, g8, g9, g10, g11⟩ := hM
  have c2 := chO_2 q hq
  refine ⟨fun p hp => ?_, fun p hp => ?_, by rw [up2_o (by omega)]; exact g2, by rw [up2_o (by omega)]; exact g3, g4, fun t x ht => by rw [up2_o (by omega), up2_o (by omega)]; exact g5 t x ht, by rw [up2_o (by omega)]; exact g6, g7, by rw [up2_o (by omega)]; exact g8, by rw [up2_o (by omega)]; exact g9, g10, fun t x ht => by rw [up2_o (by omega), up2_o (by omega)]; exact g11 t x ht⟩
  · have e := chO_1 p hp q hq
    show up2 V (mb + q.2) c (nI v) (mb + p.2) c = nI (va_up y.1 q.1 v p.1)
    by_cases z : p.2 = q.2
    · rw [z, up2_s, e.mp z, va_up_self]
    · rw [up2_o (by omega), va_up_ne _ _ (fun w => z (e.mpr w))]; exact g1 p hp
  · show va_up y.1 q.1 v p.1 < 65536
    by_cases z : p.1 = q.1
    · rw [z, va_up_self]; exact hv
    · rw [va_up_ne _ _ z]; exact g1b p hp
theorem MC.pD {c : Nat} (hM : MC V mb c y) (u : Option Nat) : MC (up2 V (mb + 19) c (dueI u)) mb c (y.1, u, y.2.2) := by
  obtain ⟨g1, g1b, g2, g3, g4, g5, g6, g7, g8, g9, g10, g11⟩ := hM
  refine ⟨fun p hp => ?_, g1b, up2_s, by rw [up2_o (by omega)]; exact g3, g4, fun t x ht => by rw [up2_o (by omega), up2_o (by omega)]; exact g5 t x ht, by rw [up2_o (by omega)]; exact g6, g7, by rw [up2_o (by omega)]; exact g8, by rw [up2_o (by omega)]; exact g9, g10, fun t x ht => by rw [up2_o (by omega), up2_o (by omega)]; exact g11 t x ht⟩
  have c2 := chO_2 p hp
  rw [up2_o (by omega)]; exact g1 p hp
theorem MC.pT0 {c : Nat} (hM : MC V mb c y) : MC (up2 V (mb + 15) c (nI 0)) mb c (y.1, y.2.1, [], y.2.2.2) := by
  obtain ⟨g1, g1b, g2, g3, g4, g5, g6, g7, g8, g9, g10, g11⟩ := hM
  refine ⟨fun p hp => ?_, g1b, by rw [up2_o (by omega)]; exact g2, up2_s, by simp, fun t x ht => by simp at ht, by rw [up2_o (by omega)]; exact g6, g7, by rw [up2_o (by omega)]; exact g8, by rw [up2_o (by omega)]; exact g9, g10, fun t x ht => by rw [up2_o (by omega), up2_o (by omega)]; exact g11 t x ht⟩
  have c2 := chO_2 p hp
  rw [up2_o (by omega)]; exact g1 p hp
theorem MC.pG0 {c : Nat} (hM : MC V mb c y) : MC (up2 V (mb + 20) c (nI 0)) mb c (y.1, y.2.1, y.2.2.1, y.2.2.2.1, []) := by
  obtain ⟨g1, g1b, g2, g3, g4, g5, g6, g7, g8, g9, g10, g11⟩ := hM
  refine ⟨fun p hp => ?_, g1b, by rw [up2_o (by omega)]; exact g2, by rw [up2_o (by omega)]; exact g3, g4, fun t x ht => by rw [up2_o (by omega), up2_o (by omega)]; exact g5 t x ht, up2_s, by simp, fun j b hj => by simp at hj, by rw [up2_o (by omega)]; exact g9, g10, fun t x ht => by rw [up2_o (by omega), up2_o (by omega)]; exact g11 t x ht⟩
  have c2 := chO_2 p hp
  rw [up2_o (by omega)]; exact g1 p hp
theorem MC.pR0 {c : Nat} (hM : MC V mb c y) : MC (up2 V (mb + 22) c (nI 0)) mb c (y.1, y.2.1, y.2.2.1, [], y.2.2.2.2) := by
  obtain ⟨g1, g1b, g2, g3, g4, g5, g6, g7, g8, g9, g10, g11⟩ := hM
  refine ⟨fun p hp => ?_, g1b, by rw [up2_o (by omega)]; exact g2, by rw [up2_o (by omega)]; exact g3, g4, fun t x ht => by rw [up2_o (by omega), up2_o (by omega)]; exact g5 t x ht, by rw [up2_o (by omega)]; exact g6, g7, by rw [up2_o (by omega)]; exact g8, up2_s, by simp, fun t x ht => by simp at ht⟩
  have c2 := chO_2 p hp
  rw [up2_o (by omega)]; exact g1 p hp
theorem MC.ext {c : Nat} {y' : Ch} (hM : MC V mb c y) (h1 : ∀ q ∈ chO, y'.1 q.1 = y.1 q.1) (h2 : y'.2 = y.2) : MC V mb c y' := by
  obtain ⟨u, w⟩ := y'
  obtain ⟨g1, g1b, g2⟩ := hM
  cases h2
  exact ⟨fun q hq => by rw [h1 q hq]; exact g1 q hq, fun q hq => by rw [h1 q hq]; exact g1b q hq, g2⟩
theorem MC.num {c : Nat} (hM : MC V mb c y) (q : Nat × Nat) (hq : q ∈ chO) : V (mb + q.2) c = nI (y.1 q.1) ∧ y.1 q.1 < 65536 := ⟨hM.1 q hq, hM.2.1 q hq⟩
end MPUT
def dropV (V : fl_V) (mb c : Nat) : fl_V := up2 (up2 (up2 (up2 V (mb + 15) c (nI 0)) (mb + 18) c (nI 0)) (mb + 19) c (-1)) (mb + 20) c (nI 0)
def ch_drop (y : Ch) : Ch := (va_up y.1 11 0, none, [], y.2.2.2.1, [])
theorem MC.drop {V : fl_V} {mb c : Nat} {y : Ch} (hM : MC V mb c y) : MC (dropV V mb c) mb c (ch_drop y) := ((hM.pT0.pI (11, 18) (by decide) (by decide)).pD none).pG0
theorem FM.dropV {V V0 : fl_V} {mb c : Nat} (hF : FM mb c V0 V) (hc : c < 8) : FM mb c V0 (dropV V mb c) := (((hF.up (j := 15) (by simp [own])).up (j := 18) (by simp [own])).up (j := 19) (by simp [own])).up (j := 20) (by simp [own])
theorem KP.dropV {V V0 : fl_V} {mb c : Nat} (hF : KP mb V0 V) : KP mb V0 (dropV V mb c) := (((hF.up (by decide)).up (by decide)).up (by decide)).up (by decide)
def closeV (V : fl_V) (mb c : Nat) : fl_V := up2 (up2 (up2 (up2 (up2 (dropV (up2 V (mb + 6) c (nI 0)) mb c) (mb + 10) c (nI 0)) (mb + 13) c (nI 0)) (mb + 9) c (nI 0)) (mb + 11) c (nI 0)) (mb + 12) c (nI 0)
theorem MC.close {V : fl_V} {mb c : Nat} {y : Ch} (hM : MC V mb c y) : MC (closeV V mb c) mb c (ch_close y) := by
  refine ((((((((hM.pI (1, 6) (by decide) (by decide)).drop).pI (6, 10) (v := 0) (by decide) (by decide)).pI (9, 13) (v := 0) (by decide) (by decide)).pI (5, 9) (v := 0) (by decide) (by decide)).pI (7, 11) (v := 0) (by decide) (by decide)).pI (8, 12) (v := 0) (by decide) (by decide))).ext ?_ rfl
  intro q hq
  simp [chO] at hq
  rcases hq with rfl | rfl | rfl | rfl | rfl | rfl | rfl | rfl | rfl | rfl <;> simp [ch_close, ch_drop, va_up]
section MPUT2
variable {cy : Nat → ClassId} {z0 : Nat} {ext : Nat → Nat → List Value → ev_H → Nat → ev_P → Prop} {d : Nat} {sh : fl_S} {V : fl_V} {n mb : Nat} {T : Nat → Nat} {S : List Nat} {HH : Nat → Ho} {H : Ho} {h k : Nat}
set_option maxRecDepth 100000 in
set_option maxHeartbeats 4000000 in
theorem m_takeId (hm : isMo sh mb) (hM : Mo V mb T S (va_up HH h H)) (hh : h < 2) : fl_M cy z0 ext (d + 1) m_X7_takeId [.ref (z0 + mb), .int (nI h)] sh V n (fun v sh' V' n' => v = some (.int (nI (ho_id H))) ∧ sh' = sh ∧ n' = n ∧ Mo V' mb T S (va_up HH h (hoN H 9 (ho_id H))) ∧ KP mb V V') := by
  have m0 := hm.1
  have a29 : sh (mb + 29) = some (.inl (1, 2, none)) := hm.2 28 (1, 2) rfl
  obtain ⟨⟨e29, l9, e30, eN⟩, _⟩ := id (hM.host hh)
  have li : ho_id H ≤ 255 ∧ 0 < ho_id H := by unfold ho_id; split <;> omega
  rw [show (if H.1 9 < 255 then H.1 9 + 1 else 1) = ho_id H from rfl] at e29
  refine fs_body rfl rfl (fun Ret hP => ?_)
  refine fs_aload_n (pc2 := 1) rfl rfl rfl rfl ?_
  refine fs_getr (pc2 := 4) rfl rfl rfl (by assumption) rfl ?_
  refine fs_iload_n (pc2 := 5) rfl rfl rfl rfl ?_
  try simp (disch := omega) only [nI_lit, pk_mul, nI_add, pk_sub, pk_rem4, nI_clamp, up2_o, up2_s, up2_i, cpV_o, cpV_i, e29]
  refine fs_iald (pc2 := 6) rfl rfl rfl (by assumption) (vp_in_nI (by omega) (by decide)) ?_
  refine fs_istore_n (pc2 := 7) rfl rfl rfl (Nat.le_of_ble_eq_true rfl) ?_
  refine fs_aload_n (pc2 := 8) rfl rfl rfl rfl ?_
  refine fs_getr (pc2 := 11) rfl rfl rfl (by assumption) rfl ?_
  refine fs_iload_n (pc2 := 12) rfl rfl rfl rfl ?_
  refine fs_iload_n (pc2 := 13) rfl rfl rfl rfl ?_
  refine fs_sipush (pc2 := 16) rfl rfl rfl ?_
  try simp (disch := omega) only [nI_lit, pk_mul, nI_add, pk_sub, pk_rem4, nI_clamp, up2_o, up2_s, up2_i, cpV_o, cpV_i, e29]
  refine fs_icmp_ne (pc2 := 19) rfl rfl rfl (fun h16 => ?_) (fun h16 => ?_)
  · have k16 : ho_id H ≠ 255 := c_ne (b := 255) h16 rfl rfl
    refine fs_iload_n (pc2 := 24) rfl rfl rfl rfl ?_
    refine fs_iconst (pc2 := 25) rfl rfl rfl ?_
    refine fs_iadd (pc2 := 26) rfl rfl rfl ?_
    try simp (disch := omega) only [nI_lit, pk_mul, nI_add, pk_sub, pk_rem4, nI_clamp, up2_o, up2_s, up2_i, cpV_o, cpV_i, e29]
    refine fs_iast (pc2 := 27) rfl rfl rfl (by assumption) (vp_in_nI (by omega) (by decide)) ?_
    refine fs_iload_n (pc2 := 28) rfl rfl rfl rfl ?_
    try simp (disch := omega) only [nI_lit, pk_mul, nI_add, pk_sub, pk_rem4, nI_clamp, up2_o, up2_s, up2_i, cpV_o, cpV_i, e29]
    refine fs_iret rfl rfl True.intro ?_
    refine hP _ _ _ _ ⟨rfl, rfl, rfl, hM.pN hh (FM.refl.up (j := 29) (by simp [own])) ⟨?_, ?_, ?_, ?_⟩ ?_, KP.refl.up (by decide)⟩
    · rw [up2_s, va_up_self]; congr 1; split <;> omega
    · rw [va_up_self]; omega
    · rw [up2_o (by omega), va_up_ne _ _ (by decide)]; exact e30
    · simp only [up2_o (show mb + 41 ≠ mb + 29 by omega), up2_o (show mb + 42 ≠ mb + 29 by omega), up2_o (show mb + 43 ≠ mb + 29 by omega), va_up_ne _ _ (show 11 ≠ 9 by decide), va_up_ne _ _ (show 12 ≠ 9 by decide), va_up_ne _ _ (show 13 ≠ 9 by decide)]; exact eN
    · exact va_up_ne _ _ (by decide)
  · have k16 : ho_id H = 255 := c_eq (b := 255) h16 rfl rfl
    refine fs_iconst (pc2 := 20) rfl rfl rfl ?_
    refine fs_goto rfl rfl ?_
    try simp (disch := omega) only [nI_lit, pk_mul, nI_add, pk_sub, pk_rem4, nI_clamp, up2_o, up2_s, up2_i, cpV_o, cpV_i, e29]
    refine fs_iast (pc2 := 27) rfl rfl rfl (by assumption) (vp_in_nI (by omega) (by decide)) ?_
    refine fs_iload_n (pc2 := 28) rfl rfl rfl rfl ?_
    try simp (disch := omega) only [nI_lit, pk_mul, nI_add, pk_sub, pk_rem4, nI_clamp, up2_o, up2_s, up2_i, cpV_o, cpV_i, e29]
    refine fs_iret rfl rfl True.intro ?_
    refine hP _ _ _ _ ⟨rfl, rfl, rfl, hM.pN hh (FM.refl.up (j := 29) (by simp [own])) ⟨?_, ?_, ?_, ?_⟩ ?_, KP.refl.up (by decide)⟩
    · rw [up2_s, va_up_self]; congr 1; split <;> omega
    · rw [va_up_self]; omega
    · rw [up2_o (by omega), va_up_ne _ _ (by decide)]; exact e30
    · simp only [up2_o (show mb + 41 ≠ mb + 29 by omega), up2_o (show mb + 42 ≠ mb + 29 by omega), up2_o (show mb + 43 ≠ mb + 29 by omega), va_up_ne _ _ (show 11 ≠ 9 by decide), va_up_ne _ _ (show 12 ≠ 9 by decide), va_up_ne _ _ (show 13 ≠ 9 by decide)]; exact eN
    · exact va_up_ne _ _ (by decide)
set_option maxRecDepth 100000 in
set_option maxHeartbeats 4000000 in
theorem m_dropTexts (hm : isMo sh mb) {c : Nat} (hc : c < 8) : fl_M cy z0 ext (d + 1) m_X7_dropTexts [.ref (z0 + mb), .int (nI c)] sh V n (fun v sh' V' n' => v = none ∧ sh' = sh ∧ n' = n ∧ V' = dropV V mb c) := by
  have m0 := hm.1
  have a15 : sh (mb + 15) = some (.inl (1, 8, none)) := hm.2 14 (1, 8) rfl
  have a18 : sh (mb + 18) = some (.inl (1, 8, none)) := hm.2 17 (1, 8) rfl
  have a19 : sh (mb + 19) = some (.inl (1, 8, none)) := hm.2 18 (1, 8) rfl
  have a20 : sh (mb + 20) = some (.inl (1, 8, none)) := hm.2 19 (1, 8) rfl
  refine fs_body rfl rfl (fun Ret hP => ?_)
  refine fs_aload_n (pc2 := 1) rfl rfl rfl rfl ?_
  refine fs_getr (pc2 := 4) rfl rfl rfl (by assumption) rfl ?_
  refine fs_iload_n (pc2 := 5) rfl rfl rfl rfl ?_
  refine fs_iconst (pc2 := 6) rfl rfl rfl ?_
  try simp (disch := omega) only [nI_lit, pk_mul, nI_add, pk_sub, pk_rem4, nI_clamp, up2_o, up2_s, up2_i, cpV_o, cpV_i]
  refine fs_iast (pc2 := 7) rfl rfl rfl (by assumption) (vp_in_nI (by omega) (by decide)) ?_
  refine fs_aload_n (pc2 := 8) rfl rfl rfl rfl ?_
  refine fs_getr (pc2 := 11) rfl rfl rfl (by assumption) rfl ?_
  refine fs_iload_n (pc2 := 12) rfl rfl rfl rfl ?_
  refine fs_iconst (pc2 := 13) rfl rfl rfl ?_
  try simp (disch := omega) only [nI_lit, pk_mul, nI_add, pk_sub, pk_rem4, nI_clamp, up2_o, up2_s, up2_i, cpV_o, cpV_i]
  refine fs_iast (pc2 := 14) rfl rfl rfl (by assumption) (vp_in_nI (by omega) (by decide)) ?_
  refine fs_aload_n (pc2 := 15) rfl rfl rfl rfl ?_
  refine fs_getr (pc2 := 18) rfl rfl rfl (by assumption) rfl ?_
  refine fs_iload_n (pc2 := 19) rfl rfl rfl rfl ?_
  refine fs_iconst (pc2 := 20) rfl rfl rfl ?_
  try simp (disch := omega) only [nI_lit, pk_mul, nI_add, pk_sub, pk_rem4, nI_clamp, up2_o, up2_s, up2_i, cpV_o, cpV_i]
  refine fs_iast (pc2 := 21) rfl rfl rfl (by assumption) (vp_in_nI (by omega) (by decide)) ?_
  refine fs_aload_n (pc2 := 22) rfl rfl rfl rfl ?_
  refine fs_getr (pc2 := 25) rfl rfl rfl (by assumption) rfl ?_
  refine fs_iload_n (pc2 := 26) rfl rfl rfl rfl ?_
  refine fs_iconst (pc2 := 27) rfl rfl rfl ?_
  try simp (disch := omega) only [nI_lit, pk_mul, nI_add, pk_sub, pk_rem4, nI_clamp, up2_o, up2_s, up2_i, cpV_o, cpV_i]
  refine fs_iast (pc2 := 28) rfl rfl rfl (by assumption) (vp_in_nI (by omega) (by decide)) ?_
  try simp (disch := omega) only [nI_lit, pk_mul, nI_add, pk_sub, pk_rem4, nI_clamp, up2_o, up2_s, up2_i, cpV_o, cpV_i]
  refine fs_ret rfl rfl ?_
  exact hP _ _ _ _ ⟨rfl, rfl, rfl, rfl⟩
set_option maxRecDepth 100000 in
set_option maxHeartbeats 4000000 in
theorem m_close (hm : isMo sh mb) (hM : Mo V mb T S (va_up HH h H)) (hh : h < 2) (hk : k < 4) : fl_M cy z0 ext (d + 2) m_X7_close [.ref (z0 + mb), .int (nI (4 * h + k))] sh V n (fun v sh' V' n' => v = none ∧ sh' = sh ∧ n' = n ∧ Mo V' mb T S (va_up HH h (hoC H k (ch_close (H.2.1 k)))) ∧ KP mb V V') := by
  have m0 := hm.1
  have a6 : sh (mb + 6) = some (.inl (1, 8, none)) := hm.2 5 (1, 8) rfl
  have a9 : sh (mb + 9) = some (.inl (1, 8, none)) := hm.2 8 (1, 8) rfl
  have a10 : sh (mb + 10) = some (.inl (1, 8, none)) := hm.2 9 (1, 8) rfl
  have a11 : sh (mb + 11) = some (.inl (1, 8, none)) := hm.2 10 (1, 8) rfl
  have a12 : sh (mb + 12) = some (.inl (1, 8, none)) := hm.2 11 (1, 8) rfl
  have a13 : sh (mb + 13) = some (.inl (1, 8, none)) := hm.2 12 (1, 8) rfl
  have hC := (hM.host hh).2.2.2.2.2.2 k hk
  refine fs_body rfl rfl (fun Ret hP => ?_)
  refine fs_aload_n (pc2 := 1) rfl rfl rfl rfl ?_
  refine fs_getr (pc2 := 4) rfl rfl rfl (by assumption) rfl ?_
  refine fs_iload_n (pc2 := 5) rfl rfl rfl rfl ?_
  refine fs_iconst (pc2 := 6) rfl rfl rfl ?_
  try simp (disch := omega) only [nI_lit, pk_mul, nI_add, pk_sub, pk_rem4, nI_clamp, up2_o, up2_s, up2_i, cpV_o, cpV_i]
  refine fs_iast (pc2 := 7) rfl rfl rfl (by assumption) (vp_in_nI (by omega) (by decide)) ?_
  refine fs_aload_n (pc2 := 8) rfl rfl rfl rfl ?_
  refine fs_iload_n (pc2 := 9) rfl rfl rfl rfl ?_
  try simp (disch := omega) only [nI_lit, pk_mul, nI_add, pk_sub, pk_rem4, nI_clamp, up2_o, up2_s, up2_i, cpV_o, cpV_i]
  refine fs_callv (pc2 := 12) rfl rfl rfl rfl ⟨rfl, rfl⟩ (Nat.le_of_ble_eq_true rfl) (Nat.le_of_ble_eq_true rfl) (Nat.le_of_ble_eq_true rfl) (fs_rcv rfl (by assumption)) (m_dropTexts hm (by omega)) (fun v9 sh9 V9 n9 hp9 => ?_)
  obtain ⟨ea9, eb9, ec9, hv9⟩ := hp9
  cases ea9
  obtain rfl := eb9.symm
  obtain rfl := ec9.symm
  cases hv9
  refine fs_aload_n (pc2 := 13) rfl rfl rfl rfl ?_
  refine fs_getr (pc2 := 16) rfl rfl rfl (by assumption) rfl ?_
  refine fs_iload_n (pc2 := 17) rfl rfl rfl rfl ?_
  refine fs_iconst (pc2 := 18) rfl rfl rfl ?_
  try simp (disch := omega) only [nI_lit, pk_mul, nI_add, pk_sub, pk_rem4, nI_clamp, up2_o, up2_s, up2_i, cpV_o, cpV_i]
  refine fs_iast (pc2 := 19) rfl rfl rfl (by assumption) (vp_in_nI (by omega) (by decide)) ?_
  refine fs_aload_n (pc2 := 20) rfl rfl rfl rfl ?_
  refine fs_getr (pc2 := 23) rfl rfl rfl (by assumption) rfl ?_
  refine fs_iload_n (pc2 := 24) rfl rfl rfl rfl ?_
  refine fs_iconst (pc2 := 25) rfl rfl rfl ?_
  try simp (disch := omega) only [nI_lit, pk_mul, nI_add, pk_sub, pk_rem4, nI_clamp, up2_o, up2_s, up2_i, cpV_o, cpV_i]
  refine fs_iast (pc2 := 26) rfl rfl rfl (by assumption) (vp_in_nI (by omega) (by decide)) ?_
  refine fs_aload_n (pc2 := 27) rfl rfl rfl rfl ?_
  refine fs_getr (pc2 := 30) rfl rfl rfl (by assumption) rfl ?_
  refine fs_iload_n (pc2 := 31) rfl rfl rfl rfl ?_
  refine fs_iconst (pc2 := 32) rfl rfl rfl ?_
  try simp (disch := omega) only [nI_lit, pk_mul, nI_add, pk_sub, pk_rem4, nI_clamp, up2_o, up2_s, up2_i, cpV_o, cpV_i]
  refine fs_iast (pc2 := 33) rfl rfl rfl (by assumption) (vp_in_nI (by omega) (by decide)) ?_
  refine fs_aload_n (pc2 := 34) rfl rfl rfl rfl ?_
  refine fs_getr (pc2 := 37) rfl rfl rfl (by assumption) rfl ?_
  refine fs_iload_n (pc2 := 38) rfl rfl rfl rfl ?_
  refine fs_iconst (pc2 := 39) rfl rfl rfl ?_
  try simp (disch := omega) only [nI_lit, pk_mul, nI_add, pk_sub, pk_rem4, nI_clamp, up2_o, up2_s, up2_i, cpV_o, cpV_i]
  refine fs_iast (pc2 := 40) rfl rfl rfl (by assumption) (vp_in_nI (by omega) (by decide)) ?_
  refine fs_aload_n (pc2 := 41) rfl rfl rfl rfl ?_
  refine fs_getr (pc2 := 44) rfl rfl rfl (by assumption) rfl ?_
  refine fs_iload_n (pc2 := 45) rfl rfl rfl rfl ?_
  refine fs_iconst (pc2 := 46) rfl rfl rfl ?_
  try simp (disch := omega) only [nI_lit, pk_mul, nI_add, pk_sub, pk_rem4, nI_clamp, up2_o, up2_s, up2_i, cpV_o, cpV_i]
  refine fs_iast (pc2 := 47) rfl rfl rfl (by assumption) (vp_in_nI (by omega) (by decide)) ?_
  try simp (disch := omega) only [nI_lit, pk_mul, nI_add, pk_sub, pk_rem4, nI_clamp, up2_o, up2_s, up2_i, cpV_o, cpV_i]
  refine fs_ret rfl rfl ?_
  refine hP _ _ _ _ ⟨rfl, rfl, rfl, hM.pC hh hk ((((((FM.dropV (FM.refl.up (j := 6) (by simp [own])) (by omega)).up (j := 10) (by simp [own])).up (j := 13) (by simp [own])).up (j := 9) (by simp [own])).up (j := 11) (by simp [own])).up (j := 12) (by simp [own])) hC.close, ((((((KP.dropV (KP.refl.up (by decide))).up (by decide)).up (by decide)).up (by decide)).up (by decide)).up (by decide))⟩
end MPUT2
