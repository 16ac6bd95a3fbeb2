/-! MORE STEPS over the flat memory: casts, switches -/
section FS2
variable {cy : Nat → ClassId} {z0 : Nat} {call : Nat → List Value → ev_H → Nat → ev_P → Prop} {sp : ev_F → (ev_F → Prop) → Prop} {oc mc ms nl : Nat} {rt : Option FieldType} {code : List ev_I} {Ret : ev_P}
variable {pc pc2 len a b q0 : Nat} {w : Int32} {L : List (Nat × Value)} {st r : List Value} {sh : fl_S} {V : fl_V} {n c sl : Nat}
theorem fs_cast {k q : Nat} {slots : List (Option (Option Nat))} (hat : ev_at code pc = some (q0, .checkcast k, len, a, b, w)) (hb : (b == 99) = false) (hp : pc + len = pc2) (hs : sh q = some (.inr (a, slots))) (h : fl_Q cy z0 call sp oc mc ms nl rt code Ret pc2 L (.ref (z0 + q) :: r) sh V n c sl) : fl_Q cy z0 call sp oc mc ms nl rt code Ret pc L (.ref (z0 + q) :: r) sh V n c sl := by
  refine ev_R.step ?_
  unfold ev_step
  dsimp only
  rw [hat]
  dsimp only
  rw [if_neg (fun q => by rw [q] at hb; cases hb)]
  rw [hp]
  refine ⟨?_, h⟩
  show ev_ob (fl_f cy z0 sh V (z0 + q)) a _
  rw [fl_at hs]
  exact ⟨rfl, trivial⟩
theorem fs_lsw {dd : Int} {ps : Array (Int × Int)} {u : Int32} {off : Int} (hat : ev_at code pc = some (q0, .lookupswitch dd ps, len, a, b, w)) (hb : (b == 99) = false) (ho : Op.lookupswitch.offset ps.toList dd u.toInt = off) (ht : (pc : Int) + off = (pc2 : Nat)) (h : fl_Q cy z0 call sp oc mc ms nl rt code Ret pc2 L r sh V n c sl) : fl_Q cy z0 call sp oc mc ms nl rt code Ret pc L (.int u :: r) sh V n c sl := by
  refine ev_R.step ?_
  unfold ev_step
  dsimp only
  rw [hat]
  dsimp only
  rw [if_neg (fun q => by rw [q] at hb; cases hb)]
  unfold ev_i
  dsimp only
  rw [ho]
  unfold ev_to
  rw [ht]
  exact ⟨Int.natCast_nonneg _, h⟩
theorem fs_tsw {dd lo hi : Int} {ps : Array Int} {u : Int32} {off : Int} (hat : ev_at code pc = some (q0, .tableswitch dd lo hi ps, len, a, b, w)) (hb : (b == 99) = false) (hl : lo ≤ u.toInt) (hh : u.toInt ≤ hi) (ho : ps.toList[(u.toInt - lo).toNat]? = some off) (ht : (pc : Int) + off = (pc2 : Nat)) (h : fl_Q cy z0 call sp oc mc ms nl rt code Ret pc2 L r sh V n c sl) : fl_Q cy z0 call sp oc mc ms nl rt code Ret pc L (.int u :: r) sh V n c sl := by
  refine ev_R.step ?_
  unfold ev_step
  dsimp only
  rw [hat]
  dsimp only
  rw [if_neg (fun q => by rw [q] at hb; cases hb)]
  refine ⟨fun q => by omega, fun _ _ => ?_⟩
  unfold ev_sw
  rw [ho]
  dsimp only
  unfold ev_to
  rw [ht]
  exact ⟨Int.natCast_nonneg _, h⟩
theorem fs_tswd {dd lo hi : Int} {ps : Array Int} {u : Int32} (hat : ev_at code pc = some (q0, .tableswitch dd lo hi ps, len, a, b, w)) (hb : (b == 99) = false) (hl : u.toInt < lo ∨ hi < u.toInt) (ht : (pc : Int) + dd = (pc2 : Nat)) (h : fl_Q cy z0 call sp oc mc ms nl rt code Ret pc2 L r sh V n c sl) : fl_Q cy z0 call sp oc mc ms nl rt code Ret pc L (.int u :: r) sh V n c sl := by
  refine ev_R.step ?_
  unfold ev_step
  dsimp only
  rw [hat]
  dsimp only
  rw [if_neg (fun q => by rw [q] at hb; cases hb)]
  refine ⟨fun _ => ?_, fun h1 h2 => by omega⟩
  unfold ev_to
  rw [ht]
  exact ⟨Int.natCast_nonneg _, h⟩
end FS2
/-! THE LIST of waiting signals: an ArrayList at w, its array at e, whose rows lie at rs -/
def caps : List Nat := [0, 10, 15, 22, 33, 49, 73, 109, 163, 244, 366, 549]
def eAl (w e : Nat) (sh : fl_S) : Prop := sh w = some (.inr (0, [none, some (some e), none]))
def eAr (e L : Nat) (g : Nat → Option Nat) (sh : fl_S) : Prop := sh e = some (.inl (8, L, some (.inl g)))
/-- what is told of ArrayList from outside; a0: where the array of an empty list stands -/
def AlOK (cy : Nat → ClassId) (z0 a0 : Nat) (ext : Nat → Nat → List Value → ev_H → Nat → ev_P → Prop) : Prop :=
  (∀ (d : Nat) (sh : fl_S) (V : fl_V) (n w e : Nat) (g : Nat → Option Nat) (L k r : Nat) (slots : List (Option (Option Nat))), eAl w e sh → eAr e L g sh → V w 2 = nI k → k ≤ L → L ∈ caps → (e = a0 ∨ 0 < L) → eAr a0 0 (fun _ => none) sh → k < 512 → sh r = some (.inr (4, slots)) → w < n → e < n → a0 < n → r < n → (∀ i, i < k → ∃ q slots, g i = some q ∧ q < n ∧ sh q = some (.inr (4, slots))) →
    fl_M cy z0 ext (d + 8) m_Jx4a65c_add_9ea2d [.ref (z0 + w), .ref (z0 + r)] sh V n (fun v sh' V' n' => v = some (.int 1) ∧ n ≤ n' ∧ ∃ e' L' g', eAl w e' sh' ∧ eAr e' L' g' sh' ∧ V' w 2 = nI (k + 1) ∧ k + 1 ≤ L' ∧ L' ∈ caps ∧ e' < n' ∧ e' ≠ a0 ∧ (e' = e ∨ n ≤ e') ∧ (∀ i, i < k → g' i = g i) ∧ g' k = some r ∧ (∀ a, a < n → a ≠ w → V' a = V a) ∧ (∀ a, a < n → a ≠ w → (a ≠ e ∨ a = a0) → sh' a = sh a))) ∧
  (∀ (d : Nat) (sh : fl_S) (V : fl_V) (n w e : Nat) (g : Nat → Option Nat) (L k r : Nat), eAl w e sh → eAr e L g sh → V w 2 = nI k → 0 < k → k ≤ L → L ∈ caps → (∀ i, i < k → ∃ q slots, g i = some q ∧ sh q = some (.inr (4, slots))) → g 0 = some r →
    fl_M cy z0 ext (d + 8) m_Jx4a65c_remove_915e3 [.ref (z0 + w), .int 0] sh V n (fun v sh' V' n' => v = some (.ref (z0 + r)) ∧ n' = n ∧ ∃ g', eAl w e sh' ∧ eAr e L g' sh' ∧ V' w 2 = nI (k - 1) ∧ (∀ i, i + 1 < k → g' i = g (i + 1)) ∧ (∀ a, a ≠ w → V' a = V a) ∧ (∀ a, a ≠ e → sh' a = sh a)))
/-! CreditLink$Host. Its value: numbers by their fields; channels; services (0 MTU, 1 MPS, 2 credits); the way; signals that wait; what is begun; what is gathered -/
abbrev Ho : Type := (Nat → Nat) × (Nat → Ch) × (Nat → Nat → Nat) × List Pkt × List (List Nat) × List Nat × List Nat
abbrev hoN (H : Ho) (j k : Nat) : Ho := (va_up H.1 j k, H.2)
abbrev hoC (H : Ho) (k : Nat) (y : Ch) : Ho := (H.1, va_up H.2.1 k y, H.2.2)
abbrev hoS (H : Ho) (S : Nat → Nat → Nat) : Ho := (H.1, H.2.1, S, H.2.2.2)
abbrev hoW (H : Ho) (W : List Pkt) : Ho := (H.1, H.2.1, H.2.2.1, W, H.2.2.2.2)
abbrev hoQ (H : Ho) (Q : List (List Nat)) : Ho := (H.1, H.2.1, H.2.2.1, H.2.2.2.1, Q, H.2.2.2.2.2)
abbrev hoB (H : Ho) (B : List Nat) : Ho := (H.1, H.2.1, H.2.2.1, H.2.2.2.1, H.2.2.2.2.1, B, H.2.2.2.2.2.2)
abbrev hoG (H : Ho) (G : List Nat) : Ho := (H.1, H.2.1, H.2.2.1, H.2.2.2.1, H.2.2.2.2.1, H.2.2.2.2.2.1, G)
def isHo (sh : fl_S) (hb : Nat) : Prop := sh hb = some (.inr (2, [some (some (hb + 1)), some (some (hb + 78)), some (some (hb + 79)), some (some (hb + 80)), some (some (hb + 81)), some (some (hb + 179)), some (some (hb + 180)), none, some (some (hb + 182)), none, none, none, none, none]))
def isHoC (sh : fl_S) (hb : Nat) : Prop := ∃ g, sh (hb + 1) = some (.inl (4, 4, some (.inl g))) ∧ ∀ j, j < 4 → g j = some (hb + 2 + 19 * j)
/-- the signals that wait -/
def Wt (sh : fl_S) (V : fl_V) (n K a0 w e : Nat) (rs : List Nat) (ws : List (List Nat)) : Prop := eAl w e sh ∧ e < n ∧ (e = a0 ∨ K ≤ e) ∧ eAr a0 0 (fun _ => none) sh ∧ V w 2 = nI ws.length ∧ rs.length = ws.length ∧ (∀ (i r : Nat) (x : List Nat), rs[i]? = some r → ws[i]? = some x → Row sh V r 14 x ∧ K ≤ r ∧ r + 1 < n) ∧ ∃ L g, eAr e L g sh ∧ L ∈ caps ∧ (e = a0 ∨ 0 < L) ∧ ws.length ≤ L ∧ ∀ (i r : Nat), rs[i]? = some r → g i = some r
def Host (sh : fl_S) (V : fl_V) (n K a0 hb e : Nat) (rs : List Nat) (H : Ho) : Prop :=
  (isHo sh hb ∧ isHoC sh hb ∧ hb + 184 ≤ K ∧ K ≤ n ∧ a0 < hb) ∧ (∀ j, j < 4 → Chan sh V (hb + 2 + 19 * j) (H.2.1 j) ∧ (H.2.1 j).1 0 = 64 + j) ∧ (∀ k, k < 3 → sh (hb + 78 + k) = some (.inl (1, 10, none)) ∧ ∀ i, i < 10 → V (hb + 78 + k) i = nI (H.2.2.1 k i) ∧ H.2.2.1 k i < 65536) ∧ (∃ h, Way sh V (hb + 81) h H.2.2.2.1) ∧ Wt sh V n K a0 (hb + 179) e rs H.2.2.2.2.1 ∧ Row sh V (hb + 180) 128 H.2.2.2.2.2.1 ∧ Row sh V (hb + 182) 128 H.2.2.2.2.2.2 ∧ ∀ j, (j = 7 ∨ (9 ≤ j ∧ j < 14)) → V hb j = nI (H.1 j)
/-- what a host's method leaves as it was -/
def Fr (hb a0 : Nat) (sh : fl_S) (V : fl_V) (n e : Nat) (sh' : fl_S) (V' : fl_V) (n' e' : Nat) : Prop := n ≤ n' ∧ (e' = e ∨ n ≤ e') ∧ (∀ a, a < n → (a < hb ∨ hb + 184 ≤ a) → V' a = V a) ∧ ∀ a, a < n → a ≠ hb + 179 → (a ≠ e ∨ a = a0) → sh' a = sh a
theorem Fr.refl {hb a0 n e : Nat} {sh : fl_S} {V : fl_V} : Fr hb a0 sh V n e sh V n e := ⟨Nat.le_refl _, Or.inl rfl, fun _ _ _ => rfl, fun _ _ _ _ => rfl⟩
theorem Fr.same {hb a0 n e : Nat} {sh : fl_S} {V V' : fl_V} (h : ∀ a, (a < hb ∨ hb + 184 ≤ a) → V' a = V a) : Fr hb a0 sh V n e sh V' n e := ⟨Nat.le_refl _, Or.inl rfl, fun a _ ha => h a ha, fun _ _ _ _ => rfl⟩
theorem Fr.trans {hb a0 n e n1 e1 n2 e2 : Nat} {sh sh1 sh2 : fl_S} {V V1 V2 : fl_V} (h : Fr hb a0 sh V n e sh1 V1 n1 e1) (g : Fr hb a0 sh1 V1 n1 e1 sh2 V2 n2 e2) : Fr hb a0 sh V n e sh2 V2 n2 e2 := by
  obtain ⟨h1, h2, h3, h4⟩ := h
  obtain ⟨g1, g2, g3, g4⟩ := g
  refine ⟨by omega, by omega, fun a ha hb => ?_, fun a ha hb hc => ?_⟩
  · rw [g3 a (by omega) hb, h3 a ha hb]
  · rw [g4 a (by omega) hb (by omega), h4 a ha hb hc]
theorem Wt.kept {sh : fl_S} {V V' : fl_V} {n K a0 w e : Nat} {rs : List Nat} {ws : List (List Nat)} (h : Wt sh V n K a0 w e rs ws) (hk : ∀ a, (a = w ∨ K ≤ a ∧ a < n) → V' a = V a) : Wt sh V' n K a0 w e rs ws := by
  obtain ⟨g1, g2, g3, g4, g5, g6, g7, g8⟩ := h
  refine ⟨g1, g2, g3, g4, by rw [hk w (Or.inl rfl)]; exact g5, g6, fun i r x hr hx => ?_, g8⟩
  obtain ⟨a1, a2, a3⟩ := g7 i r x hr hx
  exact ⟨a1.kept (hk _ (by omega)) (hk _ (by omega)), a2, a3⟩
theorem Host.kept {sh : fl_S} {V V' : fl_V} {n K a0 hb e : Nat} {rs : List Nat} {H : Ho} (h : Host sh V n K a0 hb e rs H) (hk : ∀ a, (hb ≤ a ∧ a < hb + 184 ∨ K ≤ a ∧ a < n) → V' a = V a) : Host sh V' n K a0 hb e rs H := by
  obtain ⟨g1, g2, g3, ⟨hh, g4⟩, g5, g6, g7, g8⟩ := h
  refine ⟨g1, fun j hj => ⟨(g2 j hj).1.kept (fun a _ _ => hk a (by omega)), (g2 j hj).2⟩, fun k hq => ⟨(g3 k hq).1, fun i hi => by rw [hk _ (by omega)]; exact (g3 k hq).2 i hi⟩, ⟨hh, g4.kept (fun a _ _ => hk a (by omega))⟩, g5.kept (fun a ha => hk a (by omega)), g6.kept (hk _ (by omega)) (hk _ (by omega)), g7.kept (hk _ (by omega)) (hk _ (by omega)), fun j hj => by rw [hk hb (by omega)]; exact g8 j hj⟩
section HOST
variable {sh : fl_S} {V V' : fl_V} {n K a0 hb e : Nat} {rs : List Nat} {H : Ho}
theorem Host.putN (h : Host sh V n K a0 hb e rs H) (j k : Nat) : Host sh (up2 V hb j (nI k)) n K a0 hb e rs (hoN H j k) := by
  obtain ⟨g1, g2, g3, ⟨hh, g4⟩, g5, g6, g7, g8⟩ := h
  refine ⟨g1, fun j hj => ⟨(g2 j hj).1.kept (fun a _ _ => up2_o (by omega)), (g2 j hj).2⟩, fun k hq => ⟨(g3 k hq).1, fun i hi => by rw [up2_o (by omega)]; exact (g3 k hq).2 i hi⟩, ⟨hh, g4.kept (fun a _ _ => up2_o (by omega))⟩, g5.kept (fun a ha => up2_o (by omega)), g6.kept (up2_o (by omega)) (up2_o (by omega)), g7.kept (up2_o (by omega)) (up2_o (by omega)), fun i hi => ?_⟩
  by_cases hij : i = j
  · subst hij; simp [up2, va_up]
  · simp only [up2, va_up, if_true, if_neg hij]; exact g8 i hi
theorem Host.putC (h : Host sh V n K a0 hb e rs H) {k : Nat} (hk4 : k < 4) {y : Ch} (hy : Chan sh V' (hb + 2 + 19 * k) y) (h0 : y.1 0 = 64 + k) (hk : ∀ a, (a < hb + 2 + 19 * k ∨ hb + 2 + 19 * k + 19 ≤ a) → V' a = V a) : Host sh V' n K a0 hb e rs (hoC H k y) := by
  obtain ⟨g1, g2, g3, ⟨hh, g4⟩, g5, g6, g7, g8⟩ := h
  refine ⟨g1, fun j hj => ?_, fun k hq => ⟨(g3 k hq).1, fun i hi => by rw [hk _ (by omega)]; exact (g3 k hq).2 i hi⟩, ⟨hh, g4.kept (fun a _ _ => hk a (by omega))⟩, g5.kept (fun a ha => hk a (by omega)), g6.kept (hk _ (by omega)) (hk _ (by omega)), g7.kept (hk _ (by omega)) (hk _ (by omega)), fun j hj => by rw [hk hb (by omega)]; exact g8 j hj⟩
  by_cases hjk : j = k
  · subst hjk
    rw [show (hoC H j y).2.1 j = y from va_up_self _ _ _]
    exact ⟨hy, h0⟩
  · rw [show (hoC H k y).2.1 j = H.2.1 j from va_up_ne _ _ hjk]
    exact ⟨(g2 j hj).1.kept (fun a _ _ => hk a (by omega)), (g2 j hj).2⟩
theorem Host.putB (h : Host sh V n K a0 hb e rs H) {B : List Nat} (hy : Row sh V' (hb + 180) 128 B) (hk : ∀ a, a ≠ hb + 180 → a ≠ hb + 181 → V' a = V a) : Host sh V' n K a0 hb e rs (hoB H B) := by
  obtain ⟨g1, g2, g3, ⟨hh, g4⟩, g5, g6, g7, g8⟩ := h
  exact ⟨g1, fun j hj => ⟨(g2 j hj).1.kept (fun a _ _ => hk a (by omega) (by omega)), (g2 j hj).2⟩, fun k hq => ⟨(g3 k hq).1, fun i hi => by rw [hk _ (by omega) (by omega)]; exact (g3 k hq).2 i hi⟩, ⟨hh, g4.kept (fun a _ _ => hk a (by omega) (by omega))⟩, g5.kept (fun a ha => hk a (by omega) (by omega)), hy, g7.kept (hk _ (by omega) (by omega)) (hk _ (by omega) (by omega)), fun j hj => by rw [hk hb (by omega) (by omega)]; exact g8 j hj⟩
theorem Host.putG (h : Host sh V n K a0 hb e rs H) {B : List Nat} (hy : Row sh V' (hb + 182) 128 B) (hk : ∀ a, a ≠ hb + 182 → a ≠ hb + 183 → V' a = V a) : Host sh V' n K a0 hb e rs (hoG H B) := by
  obtain ⟨g1, g2, g3, ⟨hh, g4⟩, g5, g6, g7, g8⟩ := h
  exact ⟨g1, fun j hj => ⟨(g2 j hj).1.kept (fun a _ _ => hk a (by omega) (by omega)), (g2 j hj).2⟩, fun k hq => ⟨(g3 k hq).1, fun i hi => by rw [hk _ (by omega) (by omega)]; exact (g3 k hq).2 i hi⟩, ⟨hh, g4.kept (fun a _ _ => hk a (by omega) (by omega))⟩, g5.kept (fun a ha => hk a (by omega) (by omega)), g6.kept (hk _ (by omega) (by omega)) (hk _ (by omega) (by omega)), hy, fun j hj => by rw [hk hb (by omega) (by omega)]; exact g8 j hj⟩
theorem Host.putW (h : Host sh V n K a0 hb e rs H) {W : List Pkt} {hh : Nat} (hy : Way sh V' (hb + 81) hh W) (hk : ∀ a, (a < hb + 81 ∨ hb + 179 ≤ a) → V' a = V a) : Host sh V' n K a0 hb e rs (hoW H W) := by
  obtain ⟨g1, g2, g3, ⟨hh', g4⟩, g5, g6, g7, g8⟩ := h
  exact ⟨g1, fun j hj => ⟨(g2 j hj).1.kept (fun a _ _ => hk a (by omega)), (g2 j hj).2⟩, fun k hq => ⟨(g3 k hq).1, fun i hi => by rw [hk _ (by omega)]; exact (g3 k hq).2 i hi⟩, ⟨hh, hy⟩, g5.kept (fun a ha => hk a (by omega)), g6.kept (hk _ (by omega)) (hk _ (by omega)), g7.kept (hk _ (by omega)) (hk _ (by omega)), fun j hj => by rw [hk hb (by omega)]; exact g8 j hj⟩
/-- the list is another one now, the shape elsewhere as it was -/
theorem Host.putQ {sh' : fl_S} {n' e' : Nat} {rs' : List Nat} {Q : List (List Nat)} (h : Host sh V n K a0 hb e rs H) (hn : n ≤ n') (hw : Wt sh' V' n' K a0 (hb + 179) e' rs' Q) (hk : ∀ a, hb ≤ a → a < hb + 184 → a ≠ hb + 179 → V' a = V a) (hs : ∀ a, hb ≤ a → a < hb + 184 → a ≠ hb + 179 → sh' a = sh a) : Host sh' V' n' K a0 hb e' rs' (hoQ H Q) := by
  obtain ⟨⟨f1, ⟨g, f2, f3⟩, f4, f5, f6⟩, g2, g3, ⟨hh, g4⟩, g5, g6, g7, g8⟩ := h
  refine ⟨⟨by unfold isHo; rw [hs hb (by omega) (by omega) (by omega)]; exact f1, ⟨g, by rw [hs _ (by omega) (by omega) (by omega)]; exact f2, f3⟩, f4, by omega, f6⟩, fun j hj => ⟨((g2 j hj).1.shape (fun a _ _ => hs a (by omega) (by omega) (by omega))).kept (fun a _ _ => hk a (by omega) (by omega) (by omega)), (g2 j hj).2⟩, fun k hq => ⟨?_, fun i hi => ?_⟩, ⟨hh, (g4.shape (fun a _ _ => hs a (by omega) (by omega) (by omega))).kept (fun a _ _ => hk a (by omega) (by omega) (by omega))⟩, hw, (g6.shape (hs _ (by omega) (by omega) (by omega)) (hs _ (by omega) (by omega) (by omega))).kept (hk _ (by omega) (by omega) (by omega)) (hk _ (by omega) (by omega) (by omega)), (g7.shape (hs _ (by omega) (by omega) (by omega)) (hs _ (by omega) (by omega) (by omega))).kept (hk _ (by omega) (by omega) (by omega)) (hk _ (by omega) (by omega) (by omega)), fun j hj => ?_⟩
  · rw [hs _ (by omega) (by omega) (by omega)]; exact (g3 k hq).1
  · rw [hk _ (by omega) (by omega) (by omega)]; exact (g3 k hq).2 i hi
  · rw [hk hb (by omega) (by omega) (by omega)]; exact g8 j hj
end HOST
/-! the first of four -/
def first4 (p : Nat → Bool) : Option Nat := if p 0 then some 0 else if p 1 then some 1 else if p 2 then some 2 else if p 3 then some 3 else none
theorem first4_some {p : Nat → Bool} {i : Nat} (hi : i < 4) (hp : p i = true) (hn : ∀ j, j < i → p j = false) : first4 p = some i := by
  unfold first4
  rcases i with _ | _ | _ | _ | i
  · simp [hp]
  · simp [hp, hn 0 (by omega)]
  · simp [hp, hn 0 (by omega), hn 1 (by omega)]
  · simp [hp, hn 0 (by omega), hn 1 (by omega), hn 2 (by omega)]
  · omega
theorem first4_none {p : Nat → Bool} (hn : ∀ j, j < 4 → p j = false) : first4 p = none := by
  unfold first4
  simp [hn 0 (by omega), hn 1 (by omega), hn 2 (by omega), hn 3 (by omega)]
theorem first4_lt {p : Nat → Bool} {i : Nat} (h : first4 p = some i) : i < 4 ∧ p i = true := by
  unfold first4 at h
  repeat' split at h
  all_goals first | (cases h; exact ⟨by omega, by assumption⟩) | cases h
