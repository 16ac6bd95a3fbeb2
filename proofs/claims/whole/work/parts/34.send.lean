/-! what a host sends -/
def ho_bsig (H : Ho) (x : List Nat) (qs : List (List Nat)) : Ho := hoB (hoN (hoQ H qs) 7 0) (two x.length ++ two 5 ++ x)
def ch_write1 (y : Ch) : Ch := match y.2.2.1 with
  | t :: ts => ch_write y t ts
  | [] => y
def ch_unit1 (y : Ch) : List Nat := match y.2.2.1 with
  | t :: _ => ch_unit y t
  | [] => []
def ho_bseg (H : Ho) (k : Nat) : Ho := hoN (hoB (hoC (hoN H 7 0) k (ch_write1 (H.2.1 k))) (ch_unit1 (H.2.1 k))) 10 ((k + 1) % 4)
def ho_next (H : Ho) : Option Nat := first4 (fun i => ch_seg (H.2.1 ((H.1 10 + i) % 4)))
def ho_unit (H : Ho) : Bool × Ho := if H.1 7 < H.2.2.2.2.2.1.length then (true, H) else match H.2.2.2.2.1 with
  | x :: qs => (true, ho_bsig H x qs)
  | [] => match ho_next H with
    | some i => (true, ho_bseg H ((H.1 10 + i) % 4))
    | none => (false, H)
def ho_put (H : Ho) : Ho := hoN H 7 (min (H.1 7 + 27) H.2.2.2.2.2.1.length)
def ho_pkt (H : Ho) : Pkt := (decide (H.1 7 = 0), true, (H.2.2.2.2.2.1.drop (H.1 7)).take 27)
def ho_send : Nat → Ho → List Pkt → Ho × List Pkt
  | 0, H, ps => (H, ps)
  | f + 1, H, ps => if 32 ≤ ps.length then (H, ps) else if (ho_unit H).1 = false then ((ho_unit H).2, ps) else ho_send f (ho_put (ho_unit H).2) (ps ++ [ho_pkt (ho_unit H).2])
/-- what sending asks of a host -/
def SI (H : Ho) : Prop := (∀ j, j < 4 → ∀ t ts, (H.2.1 j).2.2.1 = t :: ts → (H.2.1 j).1 11 ≤ t.length) ∧ H.1 10 < 4 ∧ H.1 7 ≤ H.2.2.2.2.2.1.length
theorem ch_write1_gone {y : Ch} {t : List Nat} {ts : List (List Nat)} (h : (ch_write1 y).2.2.1 = t :: ts) (hy : ∀ t ts, y.2.2.1 = t :: ts → y.1 11 ≤ t.length) : (ch_write1 y).1 11 ≤ t.length := by
  unfold ch_write1 at h ⊢
  cases htx : y.2.2.1 with
  | nil => rw [htx] at h; dsimp only at h ⊢; exact absurd (htx.symm.trans h) (by simp)
  | cons t0 ts0 =>
    rw [htx] at h
    dsimp only at h ⊢
    unfold ch_write at h ⊢
    split
    · next hlt =>
      rw [if_pos hlt] at h
      dsimp only at h ⊢
      rw [htx] at h
      cases h
      simp only [va_up, if_true]
      omega
    · next hlt =>
      simp [va_up]
theorem SI.unit {H : Ho} (h : SI H) : SI (ho_unit H).2 := by
  unfold ho_unit
  split
  · exact h
  · split
    · next x qs hq =>
      refine ⟨fun j hj t ts ht => h.1 j hj t ts ht, ?_, ?_⟩
      · show va_up H.1 7 0 10 < 4
        rw [va_up_ne _ _ (by decide)]
        exact h.2.1
      · show va_up H.1 7 0 7 ≤ _
        rw [va_up_self]
        omega
    · split
      · next i hi =>
        refine ⟨fun j hj t ts ht => ?_, ?_, ?_⟩
        · change (va_up H.2.1 ((H.1 10 + i) % 4) (ch_write1 (H.2.1 ((H.1 10 + i) % 4))) j).2.2.1 = t :: ts at ht
          show (va_up H.2.1 ((H.1 10 + i) % 4) (ch_write1 (H.2.1 ((H.1 10 + i) % 4))) j).1 11 ≤ t.length
          by_cases hjk : j = (H.1 10 + i) % 4
          · subst hjk
            rw [va_up_self] at ht ⊢
            exact ch_write1_gone ht (h.1 _ (by omega))
          · rw [va_up_ne _ _ hjk] at ht ⊢
            exact h.1 j hj t ts ht
        · show va_up (va_up H.1 7 0) 10 (((H.1 10 + i) % 4 + 1) % 4) 10 < 4
          rw [va_up_self]
          omega
        · show va_up (va_up H.1 7 0) 10 (((H.1 10 + i) % 4 + 1) % 4) 7 ≤ _
          rw [va_up_ne _ _ (by decide), va_up_self]
          omega
      · exact h
theorem SI.put {H : Ho} (h : SI H) : SI (ho_put H) := by
  refine ⟨h.1, ?_, ?_⟩
  · show va_up H.1 7 (min (H.1 7 + 27) H.2.2.2.2.2.1.length) 10 < 4
    rw [va_up_ne _ _ (by decide)]
    exact h.2.1
  · show va_up H.1 7 (min (H.1 7 + 27) H.2.2.2.2.2.1.length) 7 ≤ H.2.2.2.2.2.1.length
    rw [va_up_self]
    omega
theorem SI.send : ∀ (f : Nat) (H : Ho) (ps : List Pkt), SI H → SI (ho_send f H ps).1
  | 0, H, ps, h => by unfold ho_send; exact h
  | f + 1, H, ps, h => by
    unfold ho_send
    split
    · exact h
    · split
      · exact h.unit
      · exact SI.send f _ _ h.unit.put
theorem ch_write_0 (y : Ch) (t : List Nat) (ts : List (List Nat)) : (ch_write y t ts).1 0 = y.1 0 := by
  unfold ch_write
  split <;> simp [va_up]
theorem Host.pairCB {sh : fl_S} {V V' : fl_V} {n K a0 hb e : Nat} {rs : List Nat} {H : Ho} (h : Host sh V n K a0 hb e rs H) {k : Nat} (hk4 : k < 4) {y : Ch} {B : List Nat} (hy : Chan sh V' (hb + 2 + 19 * k) y) (h0 : y.1 0 = 64 + k) (hr : Row sh V' (hb + 180) 128 B) (hk : ∀ a, (a < hb + 2 + 19 * k ∨ hb + 2 + 19 * k + 19 ≤ a) → a ≠ hb + 180 → a ≠ hb + 181 → V' a = V a) : Host sh V' n K a0 hb e rs (hoB (hoC H k y) B) := by
  obtain ⟨g1, g2, g3, ⟨hh, g4⟩, g5, g6, g7, g8⟩ := h
  refine ⟨g1, fun j hj => ?_, fun k hq => ⟨(g3 k hq).1, fun i hi => by rw [hk _ (by omega) (by omega) (by omega)]; exact (g3 k hq).2 i hi⟩, ⟨hh, g4.kept (fun a _ _ => hk a (by omega) (by omega) (by omega))⟩, g5.kept (fun a ha => hk a (by omega) (by omega) (by omega)), hr, g7.kept (hk _ (by omega) (by omega) (by omega)) (hk _ (by omega) (by omega) (by omega)), fun j hj => by rw [hk hb (by omega) (by omega) (by omega)]; exact g8 j hj⟩
  show Chan sh V' (hb + 2 + 19 * j) (va_up H.2.1 k y j) ∧ (va_up H.2.1 k y j).1 0 = 64 + j
  by_cases hjk : j = k
  · subst hjk
    rw [va_up_self]
    exact ⟨hy, h0⟩
  · rw [va_up_ne _ _ hjk]
    exact ⟨(g2 j hj).1.kept (fun a _ _ => hk a (by omega) (by omega) (by omega)), (g2 j hj).2⟩
section SEND
variable {cy : Nat → ClassId} {z0 : Nat} {ext : Nat → Nat → List Value → ev_H → Nat → ev_P → Prop} {d : Nat} {sh : fl_S} {V : fl_V} {n K a0 hb e : Nat} {rs : List Nat} {H : Ho}
theorem Wt.pop {V' : fl_V} {sh' : fl_S} {w r L : Nat} {rs' : List Nat} {g g' : Nat → Option Nat} {x : List Nat} {ws : List (List Nat)} (h : Wt sh V n K a0 w e (r :: rs') (x :: ws)) (hw : w < K) (hg : eAr e L g sh) (m1 : eAl w e sh') (m2 : eAr e L g' sh') (m3 : V' w 2 = nI ws.length) (m4 : ∀ i, i < ws.length → g' i = g (i + 1)) (m5 : ∀ a, a ≠ w → V' a = V a) (m6 : ∀ a, a ≠ e → sh' a = sh a) : e ≠ a0 ∧ Wt sh' V' n K a0 w e rs' ws := by
  obtain ⟨q1, q2, q3, q4, q5, q6, q7, L2, g2, q8, q9, q10, q11, q12⟩ := h
  have hg2 : g2 = g ∧ L2 = L := by
    unfold eAr at q8 hg
    rw [q8] at hg
    simp at hg
    exact ⟨hg.2, hg.1⟩
  obtain ⟨rfl, rfl⟩ := hg2
  have ne : e ≠ a0 := by
    intro z
    unfold eAr at q8 q4
    rw [z, q4] at q8
    simp at q8
    simp at q11
    omega
  have ln : rs'.length = ws.length := by simpa using q6
  refine ⟨ne, m1, q2, q3, ?_, m3, ln, ?_, L2, g', m2, q9, q10, by simp at q11; omega, ?_⟩
  · unfold eAr; rw [m6 a0 (Ne.symm ne)]; exact q4
  · intro i ri y hi hy
    obtain ⟨a1, a2, a3⟩ := q7 (i + 1) ri y (by simpa using hi) (by simpa using hy)
    obtain ⟨n1, n2⟩ := a1.ne_e q8
    exact ⟨(a1.shape (m6 _ n1) (m6 _ n2)).kept (m5 _ (by omega)) (m5 _ (by omega)), a2, a3⟩
  · intro i ri hi
    have hl := (List.getElem?_eq_some_iff.mp hi).1
    rw [m4 i (by omega)]
    exact q12 (i + 1) ri (by simpa using hi)
set_option maxRecDepth 100000 in
set_option maxHeartbeats 4000000 in
theorem e_beginSignal0 (hQ : H.2.2.2.2.1 = []) (hH : Host sh V n K a0 hb e rs H) : fl_M cy z0 ext (d + 2) m_X1_beginSignal [.ref (z0 + hb)] sh V n (fun v sh' V' n' => v = some (.int 0) ∧ sh' = sh ∧ n' = n ∧ V' = V) := by
  obtain ⟨⟨f1, ⟨gc, f2, f3⟩, f4, f5, f6⟩, HC, HS, ⟨wh, HW⟩, HQ, HB, HG, HI⟩ := id hH
  unfold isHo at f1
  obtain ⟨b1, b2⟩ := id HB.1
  obtain ⟨t1, t2⟩ := id HG.1
  have al0 := HQ.1
  unfold eAl at al0
  have lnG : H.2.2.2.2.2.2.length ≤ 128 := HG.2.2.1
  have lnB : H.2.2.2.2.2.1.length ≤ 128 := HB.2.2.1
  have eG : V (hb + 182) 1 = nI H.2.2.2.2.2.2.length := HG.2.2.2.2.1
  have eB : V (hb + 180) 1 = nI H.2.2.2.2.2.1.length := HB.2.2.2.2.1
  have eQ : V (hb + 179) 2 = nI 0 := by rw [HQ.2.2.2.2.1, hQ]; rfl
  refine fs_body rfl rfl (fun Ret hP => ?_)
  refine fs_aload_n (pc2 := 1) rfl rfl rfl rfl ?_
  refine fs_getr (pc2 := 4) rfl rfl rfl (by assumption) rfl ?_
  refine fs_callv (pc2 := 7) rfl rfl rfl rfl ⟨rfl, rfl⟩ (Nat.le_of_ble_eq_true rfl) (Nat.le_of_ble_eq_true rfl) (Nat.le_of_ble_eq_true rfl) (fs_rcv rfl (by assumption)) (e_Al_isEmpty HQ.1) (fun v9 sh9 V9 n9 hp9 => ?_)
  obtain ⟨ea9, eb9, ec9, hv9⟩ := hp9
  cases ea9
  obtain rfl := eb9.symm
  obtain rfl := ec9.symm
  cases hv9
  refine fs_if_eq (pc2 := 10) rfl rfl rfl (fun h7 => ?_) (fun h7 => ?_)
  · exact absurd (bI_0.mp h7) (by rw [eQ]; decide)
  · refine fs_iconst (pc2 := 11) rfl rfl rfl ?_
    refine fs_iret rfl rfl (Or.inl rfl) ?_
    exact hP _ _ _ _ ⟨rfl, rfl, rfl, rfl⟩
set_option maxRecDepth 100000 in
set_option maxHeartbeats 4000000 in
theorem e_beginSignal (hA : AlOK cy z0 a0 ext) {x : List Nat} {qs : List (List Nat)} (hQ : H.2.2.2.2.1 = x :: qs) (hH : Host sh V n K a0 hb e rs H) : fl_M cy z0 ext (d + 9) m_X1_beginSignal [.ref (z0 + hb)] sh V n (fun v sh' V' n' => v = some (.int 1) ∧ n' = n ∧ ∃ rs', Host sh' V' n K a0 hb e rs' (ho_bsig H x qs) ∧ (∀ a, (a < hb ∨ hb + 184 ≤ a) → V' a = V a) ∧ ∀ a, (a ≠ e ∨ a = a0) → sh' a = sh a) := by
  obtain ⟨⟨f1, ⟨gc, f2, f3⟩, f4, f5, f6⟩, HC, HS, ⟨wh, HW⟩, HQ, HB, HG, HI⟩ := id hH
  unfold isHo at f1
  obtain ⟨b1, b2⟩ := id HB.1
  obtain ⟨t1, t2⟩ := id HG.1
  have al0 := HQ.1
  unfold eAl at al0
  have lnG : H.2.2.2.2.2.2.length ≤ 128 := HG.2.2.1
  have lnB : H.2.2.2.2.2.1.length ≤ 128 := HB.2.2.1
  have eG : V (hb + 182) 1 = nI H.2.2.2.2.2.2.length := HG.2.2.2.2.1
  have eB : V (hb + 180) 1 = nI H.2.2.2.2.2.1.length := HB.2.2.2.2.1
  have HQ2 := HQ
  rw [hQ] at HQ2
  obtain ⟨q1, q2, q3, q4, q5, q6, q7, L, g, q8, q9, q10, q11, q12⟩ := id HQ2
  obtain ⟨r, rs', rfl⟩ : ∃ r rs', rs = r :: rs' := by
    cases rs with
    | nil => simp at q6
    | cons r rs' => exact ⟨r, rs', rfl⟩
  have ln : rs'.length = qs.length := by simpa using q6
  simp only [List.length_cons] at q5 q11
  obtain ⟨R0, kr, nr⟩ := q7 0 r x rfl rfl
  have lx : x.length ≤ 14 := R0.2.2.1
  have hg0 : g 0 = some r := q12 0 r rfl
  have hall : ∀ i, i < qs.length + 1 → ∃ q slots, g i = some q ∧ sh q = some (.inr (4, slots)) := by
    intro i hi
    obtain ⟨ri, hri⟩ : ∃ ri, (r :: rs')[i]? = some ri := ⟨_, List.getElem?_eq_getElem (by simp; omega)⟩
    obtain ⟨xi, hxi⟩ : ∃ xi, (x :: qs)[i]? = some xi := ⟨_, List.getElem?_eq_getElem (by simp; omega)⟩
    exact ⟨ri, _, q12 i ri hri, (q7 i ri xi hri hxi).1.1.1⟩
  have l1000 : qs.length < 1000 := by
    have hc : ∀ z ∈ caps, z ≤ 549 := by decide
    have := hc L q9
    omega
  refine fs_body rfl rfl (fun Ret hP => ?_)
  refine fs_aload_n (pc2 := 1) rfl rfl rfl rfl ?_
  refine fs_getr (pc2 := 4) rfl rfl rfl (by assumption) rfl ?_
  refine fs_callv (pc2 := 7) rfl rfl rfl rfl ⟨rfl, rfl⟩ (Nat.le_of_ble_eq_true rfl) (Nat.le_of_ble_eq_true rfl) (Nat.le_of_ble_eq_true rfl) (fs_rcv rfl (by assumption)) (e_Al_isEmpty HQ.1) (fun v9 sh9 V9 n9 hp9 => ?_)
  obtain ⟨ea9, eb9, ec9, hv9⟩ := hp9
  cases ea9
  obtain rfl := eb9.symm
  obtain rfl := ec9.symm
  cases hv9
  refine fs_if_eq (pc2 := 10) rfl rfl rfl (fun h7 => ?_) (fun h7 => ?_)
  · refine fs_aload_n (pc2 := 13) rfl rfl rfl rfl ?_
    refine fs_getr (pc2 := 16) rfl rfl rfl (by assumption) rfl ?_
    refine fs_iconst (pc2 := 17) rfl rfl rfl ?_
    refine fs_callv (pc2 := 20) rfl rfl rfl rfl ⟨rfl, rfl⟩ (Nat.le_of_ble_eq_true rfl) (Nat.le_of_ble_eq_true rfl) (Nat.le_of_ble_eq_true rfl) (fs_rcv rfl (by assumption)) (hA.2 _ _ _ _ _ _ g L (qs.length + 1) r q1 q8 q5 (by omega) q11 q9 hall hg0) (fun v9 sh9 V9 n9 hp9 => ?_)
    obtain ⟨ea9, eb9, g1, m1, m2, m3, m4, m5, m6⟩ := hp9
    cases ea9
    obtain rfl := eb9.symm
    obtain ⟨nea, wt⟩ := HQ2.pop (by omega) q8 m1 m2 m3 (fun i hi => m4 i (by omega)) m5 m6
    have ne : ∀ a, hb ≤ a → a < hb + 184 → a ≠ e := fun a h1 h2 => by omega
    have k1 := hH.putQ (Nat.le_refl _) wt (fun a a1 a2 a3 => m5 a a3) (fun a a1 a2 a3 => m6 a (ne a a1 a2))
    obtain ⟨n1, n2⟩ := R0.ne_e q8
    have R1 := (R0.shape (m6 _ n1) (m6 _ n2)).kept (m5 r (by omega)) (m5 (r + 1) (by omega))
    obtain ⟨x0, x1⟩ := id R1.1
    obtain ⟨⟨f1x, ⟨gcx, f2x, f3x⟩, f4x, f5x, f6x⟩, HCx, HSx, ⟨whx, HWx⟩, HQx, HBx, HGx, HIx⟩ := id k1
    unfold isHo at f1x
    obtain ⟨b1x, b2x⟩ := id HBx.1
    obtain ⟨t1x, t2x⟩ := id HGx.1
    have al0x := HQx.1
    unfold eAl at al0x
    refine fs_cast (pc2 := 23) rfl rfl rfl (by assumption) ?_
    refine fs_astore_n (pc2 := 24) rfl rfl rfl (Nat.le_of_ble_eq_true rfl) ?_
    refine fs_aload_n (pc2 := 25) rfl rfl rfl rfl ?_
    refine fs_getr (pc2 := 28) rfl rfl rfl (by assumption) rfl ?_
    refine fs_callv (pc2 := 31) rfl rfl rfl rfl ⟨rfl, rfl⟩ (Nat.le_of_ble_eq_true rfl) (Nat.le_of_ble_eq_true rfl) (Nat.le_of_ble_eq_true rfl) (fs_rcv rfl (by assumption)) (e_Row_clear HBx) (fun v9 sh9 V9 n9 hp9 => ?_)
    obtain ⟨ea9, eb9, ec9, hr1, hf1⟩ := hp9
    cases ea9
    obtain rfl := eb9.symm
    obtain rfl := ec9.symm
    have k2 := (k1.putB hr1 (fun a a1 a2 => hf1 a a1)).putN 7 0
    have R2 := R1.kept (V' := up2 V9 hb 7 0) (by rw [up2_o (by omega), hf1 r (by omega)]) (by rw [up2_o (by omega), hf1 _ (by omega)])
    have ex : up2 V9 hb 7 0 r 1 = nI x.length := R2.2.2.2.2.1
    have fA : ∀ a, a ≠ hb → a ≠ hb + 180 → up2 V9 hb 7 0 a = _ := fun a a1 a2 => (up2_o a1).trans (hf1 a a2)
    refine fs_aload_n (pc2 := 32) rfl rfl rfl rfl ?_
    refine fs_iconst (pc2 := 33) rfl rfl rfl ?_
    refine fs_puti (pc2 := 36) rfl rfl rfl (by assumption) rfl True.intro ?_
    refine fs_aload_n (pc2 := 37) rfl rfl rfl rfl ?_
    refine fs_getr (pc2 := 40) rfl rfl rfl (by assumption) rfl ?_
    refine fs_aload_n (pc2 := 41) rfl rfl rfl rfl ?_
    refine fs_geti (pc2 := 44) rfl rfl rfl (by assumption) rfl ?_
    refine fs_callv (pc2 := 47) rfl rfl rfl rfl ⟨rfl, rfl⟩ (Nat.le_of_ble_eq_true rfl) (Nat.le_of_ble_eq_true rfl) (Nat.le_of_ble_eq_true rfl) (fs_rcv rfl (by assumption)) (by rw [ex]; exact e_Row_addNumber (by omega) k2.2.2.2.2.2.1 (by simp)) (fun v9 sh9 V9 n9 hp9 => ?_)
    obtain ⟨ea9, eb9, ec9, hr3, hf3⟩ := hp9
    cases ea9
    obtain rfl := eb9.symm
    obtain rfl := ec9.symm
    refine fs_aload_n (pc2 := 48) rfl rfl rfl rfl ?_
    refine fs_getr (pc2 := 51) rfl rfl rfl (by assumption) rfl ?_
    refine fs_iconst (pc2 := 52) rfl rfl rfl ?_
    refine fs_callv (pc2 := 55) rfl rfl rfl rfl ⟨rfl, rfl⟩ (Nat.le_of_ble_eq_true rfl) (Nat.le_of_ble_eq_true rfl) (Nat.le_of_ble_eq_true rfl) (fs_rcv rfl (by assumption)) (by exact e_Row_addNumber (k := 5) (by decide) hr3 (by simp)) (fun v9 sh9 V9 n9 hp9 => ?_)
    obtain ⟨ea9, eb9, ec9, hr4, hf4⟩ := hp9
    cases ea9
    obtain rfl := eb9.symm
    obtain rfl := ec9.symm
    have R4 := R2.kept (V' := V9) (by rw [hf4 r (by omega) (by omega), hf3 r (by omega) (by omega)]) (by rw [hf4 _ (by omega) (by omega), hf3 _ (by omega) (by omega)])
    have ex4 : V9 r 1 = nI x.length := R4.2.2.2.2.1
    refine fs_aload_n (pc2 := 56) rfl rfl rfl rfl ?_
    refine fs_getr (pc2 := 59) rfl rfl rfl (by assumption) rfl ?_
    refine fs_aload_n (pc2 := 60) rfl rfl rfl rfl ?_
    refine fs_iconst (pc2 := 61) rfl rfl rfl ?_
    refine fs_aload_n (pc2 := 62) rfl rfl rfl rfl ?_
    refine fs_geti (pc2 := 65) rfl rfl rfl (by assumption) rfl ?_
    refine fs_callv (pc2 := 68) rfl rfl rfl rfl ⟨rfl, rfl⟩ (Nat.le_of_ble_eq_true rfl) (Nat.le_of_ble_eq_true rfl) (Nat.le_of_ble_eq_true rfl) (fs_rcv rfl (by assumption)) (by rw [ex4]; exact e_Row_addPart (s := 0) (by decide) (by omega) hr4 R4 (by omega) (by omega) (by omega) (by simp; omega)) (fun v9 sh9 V9 n9 hp9 => ?_)
    obtain ⟨ea9, eb9, ec9, hr5, hf5⟩ := hp9
    cases ea9
    obtain rfl := eb9.symm
    obtain rfl := ec9.symm
    rw [List.drop_zero, List.take_of_length_le (Nat.le_refl _)] at hr5
    have k3 := k2.putB hr5 (fun a a1 a2 => (hf5 a a1 a2).trans ((hf4 a a1 a2).trans (hf3 a a1 a2)))
    refine fs_iconst (pc2 := 69) rfl rfl rfl ?_
    refine fs_iret rfl rfl (Or.inr rfl) ?_
    refine hP _ _ _ _ ⟨rfl, rfl, rs', k3, fun a ha => ?_, fun a ha => m6 a (by omega)⟩
    rw [hf5 a (by omega) (by omega), hf4 a (by omega) (by omega), hf3 a (by omega) (by omega), fA a (by omega) (by omega), m5 a (by omega)]
  · exact absurd (bI_0.mpr (by rw [q5]; exact decide_eq_false (nI_ne0 (by omega) (by omega)))) h7
set_option maxRecDepth 100000 in
set_option maxHeartbeats 4000000 in
theorem e_beginSegment_loop (hH : Host sh V n K a0 hb e rs H) (hS : SI H) {Ret : ev_P} (hP : ∀ (v : Option Value) (sh' : fl_S) (V' : fl_V) (n' : Nat), (fun v sh' V' n' => v = some (.int (bI (ho_next H).isSome)) ∧ sh' = sh ∧ n' = n ∧ Host sh V' n K a0 hb e rs (match ho_next H with | some i => ho_bseg H ((H.1 10 + i) % 4) | none => H) ∧ ∀ a, (a < hb ∨ hb + 184 ≤ a) → V' a = V a) v sh' V' n' → Ret v (fl_f cy z0 sh' V') (z0 + n')) : ∀ (k i : Nat) (T : List (Nat × Value)), i + k = 4 → (T = [] ∨ ∃ q, T = [(2, .int q)]) → (∀ j, j < i → ch_seg (H.2.1 ((H.1 10 + j) % 4)) = false) → fl_R cy z0 (ev_M cy ext (d + 4)) 1 0 0 3 (some .boolean) kc_X1_beginSegment Ret 2 ([(0, .ref (z0 + hb)), (1, .int (nI i))] ++ T) [] sh V n 0 0 := by
  obtain ⟨⟨f1, ⟨gc, f2, f3⟩, f4, f5, f6⟩, HC, HS, ⟨wh, HW⟩, HQ, HB, HG, HI⟩ := id hH
  unfold isHo at f1
  obtain ⟨b1, b2⟩ := id HB.1
  obtain ⟨t1, t2⟩ := id HG.1
  have al0 := HQ.1
  unfold eAl at al0
  have lnG : H.2.2.2.2.2.2.length ≤ 128 := HG.2.2.1
  have lnB : H.2.2.2.2.2.1.length ≤ 128 := HB.2.2.1
  have eG : V (hb + 182) 1 = nI H.2.2.2.2.2.2.length := HG.2.2.2.2.1
  have eB : V (hb + 180) 1 = nI H.2.2.2.2.2.1.length := HB.2.2.2.2.1
  intro k
  induction k with
  | zero =>
    intro i T hik hT hj
    have hi4 : i = 4 := by omega
    subst hi4
    rw [show ho_next H = none from first4_none hj] at hP
    refine fs_iload_n (pc2 := 3) rfl rfl rfl rfl ?_
    refine fs_iconst (pc2 := 4) rfl rfl rfl ?_
    refine fs_icmp_ge (pc2 := 7) rfl rfl rfl (fun h4 => ?_) (fun h4 => ?_)
    · refine fs_iconst (pc2 := 71) rfl rfl rfl ?_
      refine fs_iret rfl rfl (Or.inl rfl) ?_
      exact hP _ _ _ _ ⟨rfl, rfl, rfl, hH, fun _ _ => rfl⟩
    · exact absurd h4 (by decide)
  | succ k ih =>
    intro i T hik hT hj
    obtain ⟨c, hc⟩ : ∃ c, c = (H.1 10 + i) % 4 := ⟨_, rfl⟩
    have hc4 : c < 4 := by omega
    have h10 := hS.2.1
    have ek : V hb 10 + nI i - (V hb 10 + nI i) / 4 * 4 = nI c := by rw [HI 10 (by omega), nI_add, hc]; exact pk_rem (a := H.1 10 + i) (d := 4) (by omega) (by decide) (by decide)
    have i1 : vp_in (nI c) 4 := vp_in_nI (by omega) (by decide)
    have i2 : gc (nI c).toNatClampNeg = some (hb + 2 + 19 * c) := by rw [nI_clamp (by omega)]; exact f3 c (by omega)
    have C0 := (HC c (by omega)).1
    have n0 := (HC c (by omega)).2
    have s0 := C0.1
    unfold isChan at s0
    have go : ch_seg (H.2.1 ((H.1 10 + i) % 4)) = false → ∀ j, j < i + 1 → ch_seg (H.2.1 ((H.1 10 + j) % 4)) = false := by
      intro hi j hji
      by_cases hj2 : j = i
      · subst hj2; exact hi
      · exact hj j (by omega)
    rcases hT with rfl | ⟨q, rfl⟩
    · refine fs_iload_n (pc2 := 3) rfl rfl rfl rfl ?_
      refine fs_iconst (pc2 := 4) rfl rfl rfl ?_
      refine fs_icmp_ge (pc2 := 7) rfl rfl rfl (fun h4 => ?_) (fun h4 => ?_)
      · exact absurd (nI_lt (a := i) (b := 4) (by omega) (by decide)) h4
      · refine fs_aload_n (pc2 := 8) rfl rfl rfl rfl ?_
        refine fs_geti (pc2 := 11) rfl rfl rfl (by assumption) rfl ?_
        refine fs_iload_n (pc2 := 12) rfl rfl rfl rfl ?_
        refine fs_iadd (pc2 := 13) rfl rfl rfl ?_
        refine fs_iconst (pc2 := 14) rfl rfl rfl ?_
        refine fs_irem (pc2 := 15) rfl rfl rfl (by decide) ?_
        rw [ek]
        refine fs_istore_n (pc2 := 16) rfl rfl rfl (Nat.le_of_ble_eq_true rfl) ?_
        refine fs_aload_n (pc2 := 17) rfl rfl rfl rfl ?_
        refine fs_getr (pc2 := 20) rfl rfl rfl (by assumption) rfl ?_
        refine fs_iload_n (pc2 := 21) rfl rfl rfl rfl ?_
        refine fs_aald (pc2 := 22) rfl rfl rfl (by assumption) i1 i2 ?_
        refine fs_callv (pc2 := 25) rfl rfl rfl rfl ⟨rfl, rfl⟩ (Nat.le_of_ble_eq_true rfl) (Nat.le_of_ble_eq_true rfl) (Nat.le_of_ble_eq_true rfl) (fs_rcv rfl (by assumption)) (e_Chan_hasSegment C0) (fun v9 sh9 V9 n9 hp9 => ?_)
        obtain ⟨ea9, eb9, ec9, hv9⟩ := hp9
        cases ea9
        obtain rfl := eb9.symm
        obtain rfl := ec9.symm
        cases hv9
        refine fs_if_eq (pc2 := 28) rfl rfl rfl (fun h25 => ?_) (fun h25 => ?_)
        · have k25 : ch_seg (H.2.1 ((H.1 10 + i) % 4)) = false := by rw [← hc]; exact bI_0.mp h25
          refine fs_iinc (pc2 := 67) rfl rfl rfl (Nat.le_of_ble_eq_true rfl) rfl ?_
          refine fs_goto rfl rfl ?_
          rw [nI_1 i]
          exact ih (i + 1) _ (by omega) (Or.inr ⟨_, rfl⟩) (go k25)
        · have k25 : ch_seg (H.2.1 c) = true := by
            cases hb2 : ch_seg (H.2.1 c) with
            | true => rfl
            | false => rw [hb2] at h25; exact absurd rfl h25
          rw [show ho_next H = some i from first4_some (p := fun i => ch_seg (H.2.1 ((H.1 10 + i) % 4))) (by omega) (by rw [← hc]; exact k25) hj] at hP
          dsimp only at hP
          rw [← hc] at hP
          obtain ⟨t, ts, htx⟩ : ∃ t ts, (H.2.1 c).2.2.1 = t :: ts := by
            cases htx : (H.2.1 c).2.2.1 with
            | nil => simp [ch_seg, htx] at k25
            | cons t ts => exact ⟨t, ts, rfl⟩
          have hcr : 0 < (H.2.1 c).1 9 := by simp [ch_seg] at k25; omega
          have eb : ho_bseg H c = hoN (hoB (hoC (hoN H 7 0) c (ch_write (H.2.1 c) t ts)) (ch_unit (H.2.1 c) t)) 10 ((c + 1) % 4) := by unfold ho_bseg ch_write1 ch_unit1; rw [htx]
          rw [eb] at hP
          refine fs_aload_n (pc2 := 29) rfl rfl rfl rfl ?_
          refine fs_getr (pc2 := 32) rfl rfl rfl (by assumption) rfl ?_
          refine fs_callv (pc2 := 35) rfl rfl rfl rfl ⟨rfl, rfl⟩ (Nat.le_of_ble_eq_true rfl) (Nat.le_of_ble_eq_true rfl) (Nat.le_of_ble_eq_true rfl) (fs_rcv rfl (by assumption)) (e_Row_clear HB) (fun v9 sh9 V9 n9 hp9 => ?_)
          obtain ⟨ea9, eb9, ec9, hr1, hf1⟩ := hp9
          cases ea9
          obtain rfl := eb9.symm
          obtain rfl := ec9.symm
          have k1 := (hH.putB hr1 (fun a a1 a2 => hf1 a a1)).putN 7 0
          refine fs_aload_n (pc2 := 36) rfl rfl rfl rfl ?_
          refine fs_iconst (pc2 := 37) rfl rfl rfl ?_
          refine fs_puti (pc2 := 40) rfl rfl rfl (by assumption) rfl True.intro ?_
          refine fs_aload_n (pc2 := 41) rfl rfl rfl rfl ?_
          refine fs_getr (pc2 := 44) rfl rfl rfl (by assumption) rfl ?_
          refine fs_iload_n (pc2 := 45) rfl rfl rfl rfl ?_
          refine fs_aald (pc2 := 46) rfl rfl rfl (by assumption) i1 i2 ?_
          refine fs_aload_n (pc2 := 47) rfl rfl rfl rfl ?_
          refine fs_getr (pc2 := 50) rfl rfl rfl (by assumption) rfl ?_
          refine fs_callv (pc2 := 53) rfl rfl rfl rfl ⟨rfl, rfl⟩ (Nat.le_of_ble_eq_true rfl) (Nat.le_of_ble_eq_true rfl) (Nat.le_of_ble_eq_true rfl) (fs_rcv rfl (by assumption)) (e_Chan_writeSegment (y := H.2.1 c) (t := t) (ts := ts) k1.2.2.2.2.2.1 (by omega) htx (hS.1 c hc4 t ts htx) hcr (k1.ch hc4)) (fun v9 sh9 V9 n9 hp9 => ?_)
          obtain ⟨ea9, eb9, ec9, C2, hr2, hf2⟩ := hp9
          cases ea9
          obtain rfl := eb9.symm
          obtain rfl := ec9.symm
          have e10 : nI c + 1 - (nI c + 1) / 4 * 4 = nI ((c + 1) % 4) := by rw [nI_1]; exact pk_rem (a := c + 1) (d := 4) (by omega) (by decide) (by decide)
          have k2 := ((k1.pairCB hc4 C2 (by rw [ch_write_0]; exact n0) hr2 (fun a a1 a2 a3 => hf2 a (by omega) (by omega) (by omega))).putN 10 ((c + 1) % 4))
          refine fs_aload_n (pc2 := 54) rfl rfl rfl rfl ?_
          refine fs_iload_n (pc2 := 55) rfl rfl rfl rfl ?_
          refine fs_iconst (pc2 := 56) rfl rfl rfl ?_
          refine fs_iadd (pc2 := 57) rfl rfl rfl ?_
          refine fs_iconst (pc2 := 58) rfl rfl rfl ?_
          refine fs_irem (pc2 := 59) rfl rfl rfl (by decide) ?_
          refine fs_puti (pc2 := 62) rfl rfl rfl (by assumption) rfl True.intro ?_
          refine fs_iconst (pc2 := 63) rfl rfl rfl ?_
          refine fs_iret rfl rfl (Or.inr rfl) ?_
          rw [e10]
          exact hP _ _ _ _ ⟨rfl, rfl, rfl, k2, fun a ha => by rw [up2_o (by omega), hf2 a (by omega) (by omega) (by omega), up2_o (by omega), hf1 a (by omega)]⟩
    · refine fs_iload_n (pc2 := 3) rfl rfl rfl rfl ?_
      refine fs_iconst (pc2 := 4) rfl rfl rfl ?_
      refine fs_icmp_ge (pc2 := 7) rfl rfl rfl (fun h4 => ?_) (fun h4 => ?_)
      · exact absurd (nI_lt (a := i) (b := 4) (by omega) (by decide)) h4
      · refine fs_aload_n (pc2 := 8) rfl rfl rfl rfl ?_
        refine fs_geti (pc2 := 11) rfl rfl rfl (by assumption) rfl ?_
        refine fs_iload_n (pc2 := 12) rfl rfl rfl rfl ?_
        refine fs_iadd (pc2 := 13) rfl rfl rfl ?_
        refine fs_iconst (pc2 := 14) rfl rfl rfl ?_
        refine fs_irem (pc2 := 15) rfl rfl rfl (by decide) ?_
        rw [ek]
        refine fs_istore_n (pc2 := 16) rfl rfl rfl (Nat.le_of_ble_eq_true rfl) ?_
        refine fs_aload_n (pc2 := 17) rfl rfl rfl rfl ?_
        refine fs_getr (pc2 := 20) rfl rfl rfl (by assumption) rfl ?_
        refine fs_iload_n (pc2 := 21) rfl rfl rfl rfl ?_
        refine fs_aald (pc2 := 22) rfl rfl rfl (by assumption) i1 i2 ?_
        refine fs_callv (pc2 := 25) rfl rfl rfl rfl ⟨rfl, rfl⟩ (Nat.le_of_ble_eq_true rfl) (Nat.le_of_ble_eq_true rfl) (Nat.le_of_ble_eq_true rfl) (fs_rcv rfl (by assumption)) (e_Chan_hasSegment C0) (fun v9 sh9 V9 n9 hp9 => ?_)
        obtain ⟨ea9, eb9, ec9, hv9⟩ := hp9
        cases ea9
        obtain rfl := eb9.symm
        obtain rfl := ec9.symm
        cases hv9
        refine fs_if_eq (pc2 := 28) rfl rfl rfl (fun h25 => ?_) (fun h25 => ?_)
        · have k25 : ch_seg (H.2.1 ((H.1 10 + i) % 4)) = false := by rw [← hc]; exact bI_0.mp h25
          refine fs_iinc (pc2 := 67) rfl rfl rfl (Nat.le_of_ble_eq_true rfl) rfl ?_
          refine fs_goto rfl rfl ?_
          rw [nI_1 i]
          exact ih (i + 1) _ (by omega) (Or.inr ⟨_, rfl⟩) (go k25)
        · have k25 : ch_seg (H.2.1 c) = true := by
            cases hb2 : ch_seg (H.2.1 c) with
            | true => rfl
            | false => rw [hb2] at h25; exact absurd rfl h25
          rw [show ho_next H = some i from first4_some (p := fun i => ch_seg (H.2.1 ((H.1 10 + i) % 4))) (by omega) (by rw [← hc]; exact k25) hj] at hP
          dsimp only at hP
          rw [← hc] at hP
          obtain ⟨t, ts, htx⟩ : ∃ t ts, (H.2.1 c).2.2.1 = t :: ts := by
            cases htx : (H.2.1 c).2.2.1 with
            | nil => simp [ch_seg, htx] at k25
            | cons t ts => exact ⟨t, ts, rfl⟩
          have hcr : 0 < (H.2.1 c).1 9 := by simp [ch_seg] at k25; omega
          have eb : ho_bseg H c = hoN (hoB (hoC (hoN H 7 0) c (ch_write (H.2.1 c) t ts)) (ch_unit (H.2.1 c) t)) 10 ((c + 1) % 4) := by unfold ho_bseg ch_write1 ch_unit1; rw [htx]
          rw [eb] at hP
          refine fs_aload_n (pc2 := 29) rfl rfl rfl rfl ?_
          refine fs_getr (pc2 := 32) rfl rfl rfl (by assumption) rfl ?_
          refine fs_callv (pc2 := 35) rfl rfl rfl rfl ⟨rfl, rfl⟩ (Nat.le_of_ble_eq_true rfl) (Nat.le_of_ble_eq_true rfl) (Nat.le_of_ble_eq_true rfl) (fs_rcv rfl (by assumption)) (e_Row_clear HB) (fun v9 sh9 V9 n9 hp9 => ?_)
          obtain ⟨ea9, eb9, ec9, hr1, hf1⟩ := hp9
          cases ea9
          obtain rfl := eb9.symm
          obtain rfl := ec9.symm
          have k1 := (hH.putB hr1 (fun a a1 a2 => hf1 a a1)).putN 7 0
          refine fs_aload_n (pc2 := 36) rfl rfl rfl rfl ?_
          refine fs_iconst (pc2 := 37) rfl rfl rfl ?_
          refine fs_puti (pc2 := 40) rfl rfl rfl (by assumption) rfl True.intro ?_
          refine fs_aload_n (pc2 := 41) rfl rfl rfl rfl ?_
          refine fs_getr (pc2 := 44) rfl rfl rfl (by assumption) rfl ?_
          refine fs_iload_n (pc2 := 45) rfl rfl rfl rfl ?_
          refine fs_aald (pc2 := 46) rfl rfl rfl (by assumption) i1 i2 ?_
          refine fs_aload_n (pc2 := 47) rfl rfl rfl rfl ?_
          refine fs_getr (pc2 := 50) rfl rfl rfl (by assumption) rfl ?_
          refine fs_callv (pc2 := 53) rfl rfl rfl rfl ⟨rfl, rfl⟩ (Nat.le_of_ble_eq_true rfl) (Nat.le_of_ble_eq_true rfl) (Nat.le_of_ble_eq_true rfl) (fs_rcv rfl (by assumption)) (e_Chan_writeSegment (y := H.2.1 c) (t := t) (ts := ts) k1.2.2.2.2.2.1 (by omega) htx (hS.1 c hc4 t ts htx) hcr (k1.ch hc4)) (fun v9 sh9 V9 n9 hp9 => ?_)
          obtain ⟨ea9, eb9, ec9, C2, hr2, hf2⟩ := hp9
          cases ea9
          obtain rfl := eb9.symm
          obtain rfl := ec9.symm
          have e10 : nI c + 1 - (nI c + 1) / 4 * 4 = nI ((c + 1) % 4) := by rw [nI_1]; exact pk_rem (a := c + 1) (d := 4) (by omega) (by decide) (by decide)
          have k2 := ((k1.pairCB hc4 C2 (by rw [ch_write_0]; exact n0) hr2 (fun a a1 a2 a3 => hf2 a (by omega) (by omega) (by omega))).putN 10 ((c + 1) % 4))
          refine fs_aload_n (pc2 := 54) rfl rfl rfl rfl ?_
          refine fs_iload_n (pc2 := 55) rfl rfl rfl rfl ?_
          refine fs_iconst (pc2 := 56) rfl rfl rfl ?_
          refine fs_iadd (pc2 := 57) rfl rfl rfl ?_
          refine fs_iconst (pc2 := 58) rfl rfl rfl ?_
          refine fs_irem (pc2 := 59) rfl rfl rfl (by decide) ?_
          refine fs_puti (pc2 := 62) rfl rfl rfl (by assumption) rfl True.intro ?_
          refine fs_iconst (pc2 := 63) rfl rfl rfl ?_
          refine fs_iret rfl rfl (Or.inr rfl) ?_
          rw [e10]
          exact hP _ _ _ _ ⟨rfl, rfl, rfl, k2, fun a ha => by rw [up2_o (by omega), hf2 a (by omega) (by omega) (by omega), up2_o (by omega), hf1 a (by omega)]⟩
set_option maxRecDepth 100000 in
set_option maxHeartbeats 4000000 in
theorem e_beginSegment (hS : SI H) (hH : Host sh V n K a0 hb e rs H) : fl_M cy z0 ext (d + 5) m_X1_beginSegment [.ref (z0 + hb)] sh V n (fun v sh' V' n' => v = some (.int (bI (ho_next H).isSome)) ∧ sh' = sh ∧ n' = n ∧ Host sh V' n K a0 hb e rs (match ho_next H with | some i => ho_bseg H ((H.1 10 + i) % 4) | none => H) ∧ ∀ a, (a < hb ∨ hb + 184 ≤ a) → V' a = V a) := by
  obtain ⟨⟨f1, ⟨gc, f2, f3⟩, f4, f5, f6⟩, HC, HS, ⟨wh, HW⟩, HQ, HB, HG, HI⟩ := id hH
  unfold isHo at f1
  obtain ⟨b1, b2⟩ := id HB.1
  obtain ⟨t1, t2⟩ := id HG.1
  have al0 := HQ.1
  unfold eAl at al0
  have lnG : H.2.2.2.2.2.2.length ≤ 128 := HG.2.2.1
  have lnB : H.2.2.2.2.2.1.length ≤ 128 := HB.2.2.1
  have eG : V (hb + 182) 1 = nI H.2.2.2.2.2.2.length := HG.2.2.2.2.1
  have eB : V (hb + 180) 1 = nI H.2.2.2.2.2.1.length := HB.2.2.2.2.1
  refine fs_body rfl rfl (fun Ret hP => ?_)
  refine fs_iconst (pc2 := 1) rfl rfl rfl ?_
  refine fs_istore_n (pc2 := 2) rfl rfl rfl (Nat.le_of_ble_eq_true rfl) ?_
  exact e_beginSegment_loop hH hS hP 4 0 [] (by omega) (Or.inl rfl) (fun j hj => by omega)
set_option maxRecDepth 100000 in
set_option maxHeartbeats 4000000 in
theorem e_hasUnit (hA : AlOK cy z0 a0 ext) (hS : SI H) (hH : Host sh V n K a0 hb e rs H) : fl_M cy z0 ext (d + 10) m_X1_hasUnit [.ref (z0 + hb)] sh V n (fun v sh' V' n' => v = some (.int (bI (ho_unit H).1)) ∧ n' = n ∧ ∃ rs', Host sh' V' n K a0 hb e rs' (ho_unit H).2 ∧ (∀ a, (a < hb ∨ hb + 184 ≤ a) → V' a = V a) ∧ ∀ a, (a ≠ e ∨ a = a0) → sh' a = sh a) := by
  obtain ⟨⟨f1, ⟨gc, f2, f3⟩, f4, f5, f6⟩, HC, HS, ⟨wh, HW⟩, HQ, HB, HG, HI⟩ := id hH
  unfold isHo at f1
  obtain ⟨b1, b2⟩ := id HB.1
  obtain ⟨t1, t2⟩ := id HG.1
  have al0 := HQ.1
  unfold eAl at al0
  have lnG : H.2.2.2.2.2.2.length ≤ 128 := HG.2.2.1
  have lnB : H.2.2.2.2.2.1.length ≤ 128 := HB.2.2.1
  have eG : V (hb + 182) 1 = nI H.2.2.2.2.2.2.length := HG.2.2.2.2.1
  have eB : V (hb + 180) 1 = nI H.2.2.2.2.2.1.length := HB.2.2.2.2.1
  have e7 := HI 7 (by omega)
  have l7 := hS.2.2
  unfold ho_unit
  by_cases h7 : H.1 7 < H.2.2.2.2.2.1.length
  · rw [if_pos h7]
    refine fs_body rfl rfl (fun Ret hP => ?_)
    refine fs_aload_n (pc2 := 1) rfl rfl rfl rfl ?_
    refine fs_geti (pc2 := 4) rfl rfl rfl (by assumption) rfl ?_
    refine fs_aload_n (pc2 := 5) rfl rfl rfl rfl ?_
    refine fs_getr (pc2 := 8) rfl rfl rfl (by assumption) rfl ?_
    refine fs_geti (pc2 := 11) rfl rfl rfl (by assumption) rfl ?_
    refine fs_icmp_lt (pc2 := 14) rfl rfl rfl (fun h11 => ?_) (fun h11 => ?_)
    · refine fs_iconst (pc2 := 29) rfl rfl rfl ?_
      refine fs_goto rfl rfl ?_
      refine fs_iret rfl rfl (Or.inr rfl) ?_
      exact hP _ _ _ _ ⟨rfl, rfl, rs, hH, fun _ _ => rfl, fun _ _ => rfl⟩
    · exact absurd (by rw [e7, eB]; exact nI_lt h7 (by omega)) h11
  · rw [if_neg h7]
    have n7 : ¬ V hb 7 < V (hb + 180) 1 := by rw [e7, eB]; exact nI_nlt (by omega) (by omega)
    cases hQ : H.2.2.2.2.1 with
    | cons x qs =>
      dsimp only
      refine fs_body rfl rfl (fun Ret hP => ?_)
      refine fs_aload_n (pc2 := 1) rfl rfl rfl rfl ?_
      refine fs_geti (pc2 := 4) rfl rfl rfl (by assumption) rfl ?_
      refine fs_aload_n (pc2 := 5) rfl rfl rfl rfl ?_
      refine fs_getr (pc2 := 8) rfl rfl rfl (by assumption) rfl ?_
      refine fs_geti (pc2 := 11) rfl rfl rfl (by assumption) rfl ?_
      refine fs_icmp_lt (pc2 := 14) rfl rfl rfl (fun h11 => ?_) (fun h11 => ?_)
      · exact absurd h11 n7
      · refine fs_aload_n (pc2 := 15) rfl rfl rfl rfl ?_
        refine fs_callv (pc2 := 18) rfl rfl rfl rfl ⟨rfl, rfl⟩ (Nat.le_of_ble_eq_true rfl) (Nat.le_of_ble_eq_true rfl) (Nat.le_of_ble_eq_true rfl) (fs_rcv rfl (by assumption)) (e_beginSignal hA hQ hH) (fun v9 sh9 V9 n9 hp9 => ?_)
        have hP9 := hP _ _ _ _ hp9
        obtain ⟨ea9, eb9⟩ := hp9
        cases ea9
        refine fs_if_ne (pc2 := 21) rfl rfl rfl (fun h18 => ?_) (fun h18 => ?_)
        · refine fs_iconst (pc2 := 29) rfl rfl rfl ?_
          refine fs_goto rfl rfl ?_
          refine fs_iret rfl rfl (Or.inr rfl) ?_
          exact hP9
        · exact absurd h18 (by decide)
    | nil =>
      dsimp only
      refine fs_body rfl rfl (fun Ret hP => ?_)
      refine fs_aload_n (pc2 := 1) rfl rfl rfl rfl ?_
      refine fs_geti (pc2 := 4) rfl rfl rfl (by assumption) rfl ?_
      refine fs_aload_n (pc2 := 5) rfl rfl rfl rfl ?_
      refine fs_getr (pc2 := 8) rfl rfl rfl (by assumption) rfl ?_
      refine fs_geti (pc2 := 11) rfl rfl rfl (by assumption) rfl ?_
      refine fs_icmp_lt (pc2 := 14) rfl rfl rfl (fun h11 => ?_) (fun h11 => ?_)
      · exact absurd h11 n7
      · refine fs_aload_n (pc2 := 15) rfl rfl rfl rfl ?_
        refine fs_callv (pc2 := 18) rfl rfl rfl rfl ⟨rfl, rfl⟩ (Nat.le_of_ble_eq_true rfl) (Nat.le_of_ble_eq_true rfl) (Nat.le_of_ble_eq_true rfl) (fs_rcv rfl (by assumption)) (e_beginSignal0 hQ hH) (fun v9 sh9 V9 n9 hp9 => ?_)
        obtain ⟨ea9, eb9, ec9, hv9⟩ := hp9
        cases ea9
        obtain rfl := eb9.symm
        obtain rfl := ec9.symm
        cases hv9
        refine fs_if_ne (pc2 := 21) rfl rfl rfl (fun h18 => ?_) (fun h18 => ?_)
        · exact absurd rfl h18
        · refine fs_aload_n (pc2 := 22) rfl rfl rfl rfl ?_
          refine fs_callv (pc2 := 25) rfl rfl rfl rfl ⟨rfl, rfl⟩ (Nat.le_of_ble_eq_true rfl) (Nat.le_of_ble_eq_true rfl) (Nat.le_of_ble_eq_true rfl) (fs_rcv rfl (by assumption)) (e_beginSegment hS hH) (fun v9 sh9 V9 n9 hp9 => ?_)
          obtain ⟨ea9, eb9, ec9, k1, hf1⟩ := hp9
          cases ea9
          obtain rfl := eb9.symm
          obtain rfl := ec9.symm
          refine fs_if_eq (pc2 := 28) rfl rfl rfl (fun h25 => ?_) (fun h25 => ?_)
          · have k25 : (ho_next H).isSome = false := bI_0.mp h25
            refine fs_iconst (pc2 := 33) rfl rfl rfl ?_
            refine fs_iret rfl rfl (Or.inl rfl) ?_
            cases hn : ho_next H with
            | some i => rw [hn] at k25; cases k25
            | none =>
              rw [hn] at hP k1
              exact hP _ _ _ _ ⟨rfl, rfl, rs, k1, hf1, fun _ _ => rfl⟩
          · have k25 : (ho_next H).isSome = true := by
              cases hb2 : (ho_next H).isSome with
              | true => rfl
              | false => rw [hb2] at h25; exact absurd rfl h25
            refine fs_iconst (pc2 := 29) rfl rfl rfl ?_
            refine fs_goto rfl rfl ?_
            refine fs_iret rfl rfl (Or.inr rfl) ?_
            cases hn : ho_next H with
            | none => rw [hn] at k25; cases k25
            | some i =>
              rw [hn] at hP k1
              exact hP _ _ _ _ ⟨rfl, rfl, rs, k1, hf1, fun _ _ => rfl⟩
end SEND
