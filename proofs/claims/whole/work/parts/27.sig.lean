/-! a new row; a new signal -/
section SIG
variable {cy : Nat → ClassId} {z0 : Nat} {ext : Nat → Nat → List Value → ev_H → Nat → ev_P → Prop} {d : Nat} {sh : fl_S} {V : fl_V} {n K a0 hb e : Nat} {rs : List Nat} {H : Ho}
set_option maxRecDepth 100000 in
set_option maxHeartbeats 4000000 in
theorem e_Row_init {r room : Nat} (hroom : room ≤ 128) (hs : sh r = some (.inr (4, [some none, none]))) (h0 : V r 1 = 0) (hn : n = r + 1) : fl_M cy z0 ext (d + 1) m_X3_init [.ref (z0 + r), .int (nI room)] sh V n (fun v sh' V' n' => v = none ∧ n' = n + 1 ∧ Row sh' V' r room [] ∧ (∀ a, a < n → a ≠ r → sh' a = sh a) ∧ ∀ a, a < n → V' a = V a) := by
  have ec : (nI room).toNatClampNeg = room := nI_clamp (by omega)
  have hs1 : va_up sh n (some (.inl (0, (nI room).toNatClampNeg, none))) r = some (.inr (4, [some none, none])) := by rw [va_up_ne _ _ (by omega)]; exact hs
  refine fs_body rfl rfl (fun Ret hP => ?_)
  refine fs_aload_n (pc2 := 1) rfl rfl rfl rfl ?_
  refine fs_objinit (pc2 := 4) rfl rfl rfl rfl (Nat.le_of_ble_eq_true rfl) ?_
  refine fs_aload_n (pc2 := 5) rfl rfl rfl rfl ?_
  refine fs_iload_n (pc2 := 6) rfl rfl rfl rfl ?_
  refine fs_newi (pc2 := 8) rfl rfl rfl (by decide) (nI_pos (by omega)) (Nat.le_of_ble_eq_true rfl) (by rw [ec]; omega) (by rw [ec]; omega) (fun q => by cases q) ?_
  refine fs_putr (pc2 := 11) rfl rfl rfl (by assumption) (Nat.le_of_ble_eq_true rfl) True.intro ?_
  refine fs_ret rfl rfl ?_
  refine hP _ _ _ _ ⟨rfl, rfl, ⟨⟨?_, ?_⟩, hroom, by simp, by simp, ?_, by simp⟩, fun a ha hr => ?_, fun a ha => ?_⟩
  · rw [va_up_self, hn]; rfl
  · rw [va_up_ne _ _ (by omega), hn, va_up_self, ec]
  · rw [va_up_ne _ _ (by omega), h0]; rfl
  · rw [va_up_ne _ _ hr, va_up_ne _ _ (by omega)]
  · rw [va_up_ne _ _ (by omega)]
/-- the row of the last signal is another one now -/
theorem Host.last {V' : fl_V} {r : Nat} {Q : List (List Nat)} {x x' : List Nat} (h : Host sh V n K a0 hb e (rs ++ [r]) H) (hQ : H.2.2.2.2.1 = Q ++ [x]) (hlt : ∀ q ∈ rs, q + 1 < r) (hr : Row sh V' r 14 x') (hk : ∀ a, a ≠ r → a ≠ r + 1 → V' a = V a) : Host sh V' n K a0 hb e (rs ++ [r]) (hoQ H (Q ++ [x'])) := by
  obtain ⟨g1, g2, g3, ⟨hh, g4⟩, g5, g6, g7, g8⟩ := h
  have ln := g5.2.2.2.2.2.1
  rw [hQ] at ln
  simp only [List.length_append, List.length_singleton] at ln
  have hl : (rs ++ [r])[rs.length]? = some r := by simp
  have hKr : K ≤ r := (g5.2.2.2.2.2.2.1 rs.length r x hl (by rw [hQ, show rs.length = Q.length by omega]; simp)).2.1
  obtain ⟨j1, j2, j3, j4, j5⟩ := g1
  refine ⟨⟨j1, j2, j3, j4, j5⟩, fun j hj => ⟨(g2 j hj).1.kept (fun a _ _ => hk a (by omega) (by omega)), (g2 j hj).2⟩, fun k hq => ⟨(g3 k hq).1, fun i hi => by rw [hk _ (by omega) (by omega)]; exact (g3 k hq).2 i hi⟩, ⟨hh, g4.kept (fun a _ _ => hk a (by omega) (by omega))⟩, ?_, g6.kept (hk _ (by omega) (by omega)) (hk _ (by omega) (by omega)), g7.kept (hk _ (by omega) (by omega)) (hk _ (by omega) (by omega)), fun j hj => by rw [hk hb (by omega) (by omega)]; exact g8 j hj⟩
  obtain ⟨q1, q2, q3, q4, q5, q6, q7, L, g, q8, q9, q10, q11, q12⟩ := g5
  rw [hQ] at q5 q6 q7 q11
  refine ⟨q1, q2, q3, q4, ?_, ?_, ?_, L, g, q8, q9, q10, ?_, q12⟩
  · rw [hk _ (by omega) (by omega), q5]; simp
  · simpa using q6
  · intro i ri y hi hy
    by_cases hil : i < rs.length
    · rw [List.getElem?_append_left hil] at hi
      have hm := hlt ri (List.mem_of_getElem? hi)
      have hy2 : (Q ++ [x])[i]? = some y := by
        rw [List.getElem?_append_left (by omega)] at hy ⊢
        exact hy
      obtain ⟨a1, a2, a3⟩ := q7 i ri y (by rw [List.getElem?_append_left hil]; exact hi) hy2
      exact ⟨a1.kept (hk _ (by omega) (by omega)) (hk _ (by omega) (by omega)), a2, a3⟩
    · have hi2 : i = rs.length := by
        have := (List.getElem?_eq_some_iff.mp hi).1
        simp at this
        omega
      subst hi2
      rw [hl] at hi
      cases hi
      have hy2 : y = x' := by
        have : (Q ++ [x'])[Q.length]? = some y := by rw [← show rs.length = Q.length by omega]; exact hy
        simpa using this.symm
      subst hy2
      obtain ⟨_, a2, a3⟩ := q7 rs.length r x hl (by rw [show rs.length = Q.length by omega]; simp)
      exact ⟨hr, a2, a3⟩
  · simpa using q11
theorem Host.lastRow {r : Nat} {Q : List (List Nat)} {x : List Nat} (h : Host sh V n K a0 hb e (rs ++ [r]) H) (hQ : H.2.2.2.2.1 = Q ++ [x]) : Row sh V r 14 x ∧ K ≤ r ∧ r + 1 < n := by
  obtain ⟨g1, g2, g3, ⟨hh, g4⟩, g5, g6, g7, g8⟩ := h
  have ln := g5.2.2.2.2.2.1
  rw [hQ] at ln
  simp only [List.length_append, List.length_singleton] at ln
  exact g5.2.2.2.2.2.2.1 rs.length r x (by simp) (by rw [hQ, show rs.length = Q.length by omega]; simp)
theorem Host.rows (h : Host sh V n K a0 hb e rs H) : ∀ q ∈ rs, q + 1 < n := by
  intro q hq
  obtain ⟨g1, g2, g3, ⟨hh, g4⟩, g5, g6, g7, g8⟩ := h
  obtain ⟨i, hi⟩ := List.getElem?_of_mem hq
  have hl := (List.getElem?_eq_some_iff.mp hi).1
  have ln := g5.2.2.2.2.2.1
  obtain ⟨_, _, a3⟩ := g5.2.2.2.2.2.2.1 i q (H.2.2.2.2.1[i]'(by omega)) hi (List.getElem?_eq_getElem (by omega))
  exact a3
/-- a new row behind all others -/
theorem Wt.grown {V' : fl_V} {sh' : fl_S} {n' w : Nat} {ws : List (List Nat)} (h : Wt sh V n K a0 w e rs ws) (hw : w < n) (hn : n ≤ n') (ha0 : a0 < n) (hs : ∀ a, a < n → sh' a = sh a) (hv : ∀ a, a < n → V' a = V a) : Wt sh' V' n' K a0 w e rs ws := by
  obtain ⟨q1, q2, q3, q4, q5, q6, q7, L, g, q8, q9, q10, q11, q12⟩ := h
  refine ⟨by unfold eAl; rw [hs w hw]; exact q1, by omega, q3, by unfold eAr; rw [hs a0 ha0]; exact q4, by rw [hv w hw]; exact q5, q6, fun i r x hi hx => ?_, L, g, by unfold eAr; rw [hs e q2]; exact q8, q9, q10, q11, q12⟩
  obtain ⟨a1, a2, a3⟩ := q7 i r x hi hx
  exact ⟨(a1.shape (hs _ (by omega)) (hs _ (by omega))).kept (hv _ (by omega)) (hv _ (by omega)), a2, by omega⟩
theorem Host.grown {V' : fl_V} {sh' : fl_S} {n' : Nat} (h : Host sh V n K a0 hb e rs H) (hn : n ≤ n') (hs : ∀ a, a < n → sh' a = sh a) (hv : ∀ a, a < n → V' a = V a) : Host sh' V' n' K a0 hb e rs H := by
  have g1 := h.1
  obtain ⟨j1, j2, j3, j4, j5⟩ := g1
  exact h.putQ hn (h.2.2.2.2.1.grown (by omega) hn (by omega) hs hv) (fun a _ _ _ => hv a (by omega)) (fun a _ _ _ => hs a (by omega))
theorem Row.ne_e {r room e2 L : Nat} {x : List Nat} {g : Nat → Option Nat} (h : Row sh V r room x) (he : eAr e2 L g sh) : r ≠ e2 ∧ r + 1 ≠ e2 := by
  unfold eAr at he
  obtain ⟨r0, r1⟩ := h.1
  constructor
  · intro q; rw [q, he] at r0; cases r0
  · intro q; rw [q, he] at r1; cases r1
theorem Wt.add {V' : fl_V} {sh' : fl_S} {n' e' L' w r : Nat} {g g' : Nat → Option Nat} {L : Nat} {ws : List (List Nat)} {x : List Nat} (h : Wt sh V n K a0 w e rs ws) (hg : eAr e L g sh) (hr : Row sh V r 14 x) (hKr : K ≤ r) (hrn : r + 1 < n) (hw : w < K) (ha0 : a0 < K)
    (m1 : n ≤ n') (m2 : eAl w e' sh') (m3 : eAr e' L' g' sh') (m4 : V' w 2 = nI (ws.length + 1)) (m5 : ws.length + 1 ≤ L') (m6 : L' ∈ caps) (m7 : e' < n') (m8 : e' ≠ a0) (m9 : e' = e ∨ n ≤ e') (m10 : ∀ i, i < ws.length → g' i = g i) (m11 : g' ws.length = some r) (m12 : ∀ a, a < n → a ≠ w → V' a = V a) (m13 : ∀ a, a < n → a ≠ w → (a ≠ e ∨ a = a0) → sh' a = sh a) : Wt sh' V' n' K a0 w e' (rs ++ [r]) (ws ++ [x]) := by
  obtain ⟨q1, q2, q3, q4, q5, q6, q7, L2, g2, q8, q9, q10, q11, q12⟩ := h
  have hg2 : g2 = g := by
    unfold eAr at q8 hg
    rw [q8] at hg
    simp at hg
    exact hg.2
  subst hg2
  have row : ∀ q y, Row sh V q 14 y → K ≤ q → q + 1 < n → Row sh' V' q 14 y := by
    intro q y hq h1 h2
    obtain ⟨n1, n2⟩ := hq.ne_e q8
    exact (hq.shape (m13 _ (by omega) (by omega) (Or.inl n1)) (m13 _ (by omega) (by omega) (Or.inl n2))).kept (m12 _ (by omega) (by omega)) (m12 _ (by omega) (by omega))
  have eaw : a0 ≠ w := by
    intro z
    unfold eAl at q1
    unfold eAr at q4
    rw [z, q1] at q4
    cases q4
  refine ⟨m2, m7, by omega, ?_, ?_, by simp; exact q6, ?_, L', g', m3, m6, Or.inr (by omega), by simp; exact m5, ?_⟩
  · unfold eAr; rw [m13 a0 (by omega) eaw (Or.inr rfl)]; exact q4
  · rw [m4]; simp
  · intro i ri y hi hy
    by_cases hil : i < rs.length
    · rw [List.getElem?_append_left hil] at hi
      rw [List.getElem?_append_left (by omega)] at hy
      obtain ⟨a1, a2, a3⟩ := q7 i ri y hi hy
      exact ⟨row ri y a1 a2 a3, a2, by omega⟩
    · have hi2 : i = rs.length := by
        have := (List.getElem?_eq_some_iff.mp hi).1
        simp at this
        omega
      subst hi2
      have h1 : ri = r := by simpa using hi.symm
      have h2 : y = x := by rw [q6] at hy; simpa using hy.symm
      subst h1; subst h2
      exact ⟨row ri y hr hKr hrn, hKr, by omega⟩
  · intro i ri hi
    by_cases hil : i < rs.length
    · rw [List.getElem?_append_left hil] at hi
      rw [m10 i (by omega)]
      exact q12 i ri hi
    · have hi2 : i = rs.length := by
        have := (List.getElem?_eq_some_iff.mp hi).1
        simp at this
        omega
      subst hi2
      have h1 : ri = r := by simpa using hi.symm
      subst h1
      rw [q6]
      exact m11
theorem e_Al_size {w e2 : Nat} (h : eAl w e2 sh) : fl_M cy z0 ext (d + 1) m_Jx4a65c_size_8abf5 [.ref (z0 + w)] sh V n (fun v sh' V' n' => v = some (.int (V w 2)) ∧ sh' = sh ∧ n' = n ∧ V' = V) := by
  unfold eAl at h
  refine fs_body rfl rfl (fun Ret hP => ?_)
  refine fs_aload_n (pc2 := 1) rfl rfl rfl rfl ?_
  refine fs_geti (pc2 := 4) rfl rfl rfl (by assumption) rfl ?_
  refine fs_iret rfl rfl True.intro ?_
  exact hP _ _ _ _ ⟨rfl, rfl, rfl, rfl⟩
theorem e_Al_isEmpty {w e2 : Nat} (h : eAl w e2 sh) : fl_M cy z0 ext (d + 1) m_Jx4a65c_isEmpty_aae02 [.ref (z0 + w)] sh V n (fun v sh' V' n' => v = some (.int (bI (decide (V w 2 = 0)))) ∧ sh' = sh ∧ n' = n ∧ V' = V) := by
  unfold eAl at h
  refine fs_body rfl rfl (fun Ret hP => ?_)
  refine fs_aload_n (pc2 := 1) rfl rfl rfl rfl ?_
  refine fs_geti (pc2 := 4) rfl rfl rfl (by assumption) rfl ?_
  refine fs_if_ne (pc2 := 7) rfl rfl rfl (fun h4 => ?_) (fun h4 => ?_)
  · refine fs_iconst (pc2 := 12) rfl rfl rfl ?_
    refine fs_iret rfl rfl (Or.inl rfl) ?_
    exact hP _ _ _ _ ⟨by simp [bI, h4], rfl, rfl, rfl⟩
  · refine fs_iconst (pc2 := 8) rfl rfl rfl ?_
    refine fs_goto rfl rfl ?_
    refine fs_iret rfl rfl (Or.inr rfl) ?_
    exact hP _ _ _ _ ⟨by simp [bI, h4], rfl, rfl, rfl⟩
set_option maxRecDepth 100000 in
set_option maxHeartbeats 4000000 in
theorem e_addSignal (hA : AlOK cy z0 a0 ext) {co sid k : Nat} (hco : co < 256) (hid : sid < 256) (hk : k < 100) (hlen : H.2.2.2.2.1.length < 512) (hH : Host sh V n K a0 hb e rs H) : fl_M cy z0 ext (d + 9) m_X1_addSignal [.ref (z0 + hb), .int (nI co), .int (nI sid), .int (nI k)] sh V n (fun v sh' V' n' => v = some (.ref (z0 + n)) ∧ ∃ e', Host sh' V' n' K a0 hb e' (rs ++ [n]) (hoQ H (H.2.2.2.2.1 ++ [[co, sid, (2 * k) % 256, (2 * k) / 256]])) ∧ Fr hb a0 sh V n e sh' V' n' e') := by
  obtain ⟨⟨f1, ⟨gc, f2, f3⟩, f4, f5, f6⟩, HC, HS, ⟨wh, HW⟩, HQ, HB, HG, HI⟩ := id hH
  unfold isHo at f1
  obtain ⟨b1, b2⟩ := id HB.1
  obtain ⟨t1, t2⟩ := id HG.1
  have al0 := HQ.1
  unfold eAl at al0
  have lnG : H.2.2.2.2.2.2.length ≤ 128 := HG.2.2.1
  have lnB : H.2.2.2.2.2.1.length ≤ 128 := HB.2.2.1
  have eG : V (hb + 182) 1 = nI H.2.2.2.2.2.2.length := HG.2.2.2.2.1
  have eB : V (hb + 180) 1 = nI H.2.2.2.2.2.1.length := HB.2.2.2.2.1
  have e2k : (2 : Int32) * nI k = nI (2 * k) := pk_mul 2 k
  refine fs_body rfl rfl (fun Ret hP => ?_)
  refine fs_new (slots := [some none, none]) (pc2 := 3) rfl rfl rfl (Nat.le_of_ble_eq_true rfl) (Nat.le_of_ble_eq_true rfl) rfl ?_
  first | refine fs_dup_r (pc2 := 4) rfl rfl rfl ?_ | refine fs_dup_i (pc2 := 4) rfl rfl rfl ?_
  refine fs_bipush (pc2 := 6) rfl rfl rfl ?_
  refine fs_callc (pc2 := 9) rfl rfl rfl rfl rfl ⟨rfl, rfl⟩ (Nat.le_of_ble_eq_true rfl) (Nat.le_of_ble_eq_true rfl) (Nat.le_of_ble_eq_true rfl) trivial (e_Row_init (r := n) (room := 14) (by decide) (va_up_self _ _ _) (by rw [va_up_self]) rfl) (fun v9 sh9 V9 n9 hp9 => ?_)
  obtain ⟨ea9, eb9, hr, hs9, hv9⟩ := hp9
  cases ea9
  obtain rfl := eb9
  have sA : ∀ a, a < n → sh9 a = sh a := fun a ha => by rw [hs9 a (by omega) (by omega), va_up_ne _ _ (by omega)]
  have vA : ∀ a, a < n → V9 a = V a := fun a ha => by rw [hv9 a (by omega), va_up_ne _ _ (by omega)]
  obtain ⟨r0, r1⟩ := id hr.1
  clear hs9 hv9
  have f1x := f1
  rw [← sA hb (by omega)] at f1x
  have al0x := al0
  rw [← sA _ (by omega)] at al0x
  refine fs_astore (pc2 := 11) rfl rfl rfl (Nat.le_of_ble_eq_true rfl) ?_
  refine fs_aload (pc2 := 13) rfl rfl rfl rfl ?_
  refine fs_iload_n (pc2 := 14) rfl rfl rfl rfl ?_
  refine fs_callv (pc2 := 17) rfl rfl rfl rfl ⟨rfl, rfl⟩ (Nat.le_of_ble_eq_true rfl) (Nat.le_of_ble_eq_true rfl) (Nat.le_of_ble_eq_true rfl) (fs_rcv rfl (by assumption)) (e_Row_add hr (by simp)) (fun v9 sh9 V9 n9 hp9 => ?_)
  obtain ⟨ea9, eb9, ec9, hr1, hf1⟩ := hp9
  cases ea9
  obtain rfl := eb9.symm
  obtain rfl := ec9.symm
  refine fs_aload (pc2 := 19) rfl rfl rfl rfl ?_
  refine fs_iload_n (pc2 := 20) rfl rfl rfl rfl ?_
  refine fs_callv (pc2 := 23) rfl rfl rfl rfl ⟨rfl, rfl⟩ (Nat.le_of_ble_eq_true rfl) (Nat.le_of_ble_eq_true rfl) (Nat.le_of_ble_eq_true rfl) (fs_rcv rfl (by assumption)) (e_Row_add hr1 (by simp)) (fun v9 sh9 V9 n9 hp9 => ?_)
  obtain ⟨ea9, eb9, ec9, hr2, hf2⟩ := hp9
  cases ea9
  obtain rfl := eb9.symm
  obtain rfl := ec9.symm
  refine fs_aload (pc2 := 25) rfl rfl rfl rfl ?_
  refine fs_iconst (pc2 := 26) rfl rfl rfl ?_
  refine fs_iload_n (pc2 := 27) rfl rfl rfl rfl ?_
  refine fs_imul (pc2 := 28) rfl rfl rfl ?_
  refine fs_callv (pc2 := 31) rfl rfl rfl rfl ⟨rfl, rfl⟩ (Nat.le_of_ble_eq_true rfl) (Nat.le_of_ble_eq_true rfl) (Nat.le_of_ble_eq_true rfl) (fs_rcv rfl (by assumption)) (by rw [e2k]; exact e_Row_addNumber (by omega) hr2 (by simp)) (fun v9 sh9 V9 n9 hp9 => ?_)
  obtain ⟨ea9, eb9, ec9, hr3, hf3⟩ := hp9
  cases ea9
  obtain rfl := eb9.symm
  obtain rfl := ec9.symm
  rw [bt8_nI (by omega), bt8_nI (by omega), Nat.mod_eq_of_lt hco, Nat.mod_eq_of_lt hid] at hr3
  have vB : ∀ a, a < n → V9 a = V a := fun a ha => by rw [hf3 a (by omega) (by omega), hf2 a (by omega) (by omega), hf1 a (by omega) (by omega), vA a ha]
  have hH2 : Host sh9 V9 (n + 1 + 1) K a0 hb e rs H := hH.grown (by omega) sA vB
  refine fs_aload_n (pc2 := 32) rfl rfl rfl rfl ?_
  refine fs_getr (pc2 := 35) rfl rfl rfl (by assumption) rfl ?_
  refine fs_callv (pc2 := 38) rfl rfl rfl rfl ⟨rfl, rfl⟩ (Nat.le_of_ble_eq_true rfl) (Nat.le_of_ble_eq_true rfl) (Nat.le_of_ble_eq_true rfl) (fs_rcv rfl (by assumption)) (e_Al_size hH2.2.2.2.2.1.1) (fun v9 sh9 V9 n9 hp9 => ?_)
  obtain ⟨ea9, eb9, ec9, hw9⟩ := hp9
  cases ea9
  obtain rfl := eb9.symm
  obtain rfl := ec9.symm
  cases hw9
  have HQ2 := hH2.2.2.2.2.1
  have eQ : V9 (hb + 179) 2 = nI H.2.2.2.2.1.length := HQ2.2.2.2.2.1
  obtain ⟨L, g, l1, l2, l3, l4, l5⟩ := HQ2.2.2.2.2.2.2.2
  have hel : ∀ i, i < H.2.2.2.2.1.length → ∃ q slots, g i = some q ∧ q < n + 1 + 1 ∧ sh9 q = some (.inr (4, slots)) := fun i hi => by
    obtain ⟨ri, hri⟩ : ∃ ri, rs[i]? = some ri := ⟨_, List.getElem?_eq_getElem (by rw [HQ2.2.2.2.2.2.1]; exact hi)⟩
    obtain ⟨xi, hxi⟩ : ∃ xi, H.2.2.2.2.1[i]? = some xi := ⟨_, List.getElem?_eq_getElem hi⟩
    obtain ⟨R0, kr, nr⟩ := HQ2.2.2.2.2.2.2.1 i ri xi hri hxi
    exact ⟨ri, _, l5 i ri hri, by omega, R0.1.1⟩
  refine fs_sipush (pc2 := 41) rfl rfl rfl ?_
  refine fs_icmp_ge (pc2 := 44) rfl rfl rfl (fun h41 => ?_) (fun h41 => ?_)
  · exact absurd (by rw [eQ]; exact nI_lt hlen (by decide)) h41
  · refine fs_aload_n (pc2 := 45) rfl rfl rfl rfl ?_
    refine fs_getr (pc2 := 48) rfl rfl rfl (by assumption) rfl ?_
    refine fs_aload (pc2 := 50) rfl rfl rfl rfl ?_
    refine fs_callv (pc2 := 53) rfl rfl rfl rfl ⟨rfl, rfl⟩ (Nat.le_of_ble_eq_true rfl) (Nat.le_of_ble_eq_true rfl) (Nat.le_of_ble_eq_true rfl) (fs_rcv rfl (by assumption)) (hA.1 _ _ _ _ _ _ g L H.2.2.2.2.1.length n _ HQ2.1 l1 eQ l4 l2 l3 HQ2.2.2.2.1 hlen r0 (by omega) HQ2.2.1 (by omega) (by omega) hel) (fun v9 sh9 V9 n9 hp9 => ?_)
    obtain ⟨ea9, m1, e1, L1, g1, m2, m3, m4, m5, m6, m7, m8, m9, m10, m11, m12, m13⟩ := hp9
    cases ea9
    have wt := HQ2.add l1 hr3 (by omega) (by omega) (by omega) (by omega) m1 m2 m3 m4 m5 m6 m7 m8 m9 m10 m11 m12 m13
    have ne : ∀ a, hb ≤ a → a < hb + 184 → a ≠ e := fun a h1 h2 => by have := HQ.2.2.1; omega
    first | refine fs_pop_i (pc2 := 54) rfl rfl rfl ?_ | refine fs_pop_r (pc2 := 54) rfl rfl rfl ?_
    refine fs_aload (pc2 := 56) rfl rfl rfl rfl ?_
    refine fs_aret (q := some n) rfl rfl True.intro ?_
    refine hP _ _ _ _ ⟨rfl, e1, hH2.putQ m1 wt (fun a a1 a2 a3 => m12 a (by omega) a3) (fun a a1 a2 a3 => m13 a (by omega) a3 (Or.inl (ne a a1 a2))), by omega, by omega, fun a a1 a2 => ?_, fun a a1 a2 a3 => ?_⟩
    · rw [m12 a (by omega) (by omega), vB a a1]
    · rw [m13 a (by omega) a2 a3, sA a a1]
end SIG
