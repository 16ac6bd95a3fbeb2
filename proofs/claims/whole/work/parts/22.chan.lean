/-! CreditLink$Channel. Its value: numbers by their fields, the length due, texts to be sent, texts received, what is gathered -/
abbrev Ch : Type := (Nat → Nat) × Option Nat × List (List Nat) × List (List Nat) × List Nat
def dueI (d : Option Nat) : Int32 := match d with
  | none => -1
  | some k => nI k
def isChan (sh : fl_S) (c : Nat) : Prop := sh c = some (.inr (1, [none, none, none, none, none, none, none, none, none, none, some (some (c + 1)), none, some (some (c + 7)), some (some (c + 17)), none]))
def Chan (sh : fl_S) (V : fl_V) (c : Nat) (y : Ch) : Prop := isChan sh c ∧ (∀ j, y.1 j < 65536) ∧ (∀ k, y.2.1 = some k → k < 65536) ∧ (∀ j, j < 10 ∨ j = 11 → V c j = nI (y.1 j)) ∧ V c 14 = dueI y.2.1 ∧ (∃ h, Texts sh V (c + 1) 2 122 h y.2.2.1) ∧ (∃ h, Texts sh V (c + 7) 4 100 h y.2.2.2.1) ∧ Row sh V (c + 17) 100 y.2.2.2.2
theorem Chan.kept {sh : fl_S} {V V' : fl_V} {c : Nat} {y : Ch} (h : Chan sh V c y) (hk : ∀ a, c ≤ a → a < c + 19 → V' a = V a) : Chan sh V' c y := by
  obtain ⟨g1, g2, g3, g4, g5, ⟨h1, g6⟩, ⟨h2, g7⟩, g8⟩ := h
  have e0 : V' c = V c := hk c (Nat.le_refl _) (by omega)
  exact ⟨g1, g2, g3, fun j hj => by rw [e0]; exact g4 j hj, by rw [e0]; exact g5, ⟨h1, g6.kept (fun a q1 q2 => hk a (by omega) (by omega))⟩, ⟨h2, g7.kept (fun a q1 q2 => hk a (by omega) (by omega))⟩, g8.kept (hk _ (by omega) (by omega)) (hk _ (by omega) (by omega))⟩
theorem Chan.shape {sh sh' : fl_S} {V : fl_V} {c : Nat} {y : Ch} (h : Chan sh V c y) (hk : ∀ a, c ≤ a → a < c + 19 → sh' a = sh a) : Chan sh' V c y := by
  obtain ⟨g1, g2, g3, g4, g5, ⟨h1, g6⟩, ⟨h2, g7⟩, g8⟩ := h
  exact ⟨by unfold isChan; rw [hk c (Nat.le_refl _) (by omega)]; exact g1, g2, g3, g4, g5, ⟨h1, g6.shape (fun a q1 q2 => hk a (by omega) (by omega))⟩, ⟨h2, g7.shape (fun a q1 q2 => hk a (by omega) (by omega))⟩, g8.shape (hk _ (by omega) (by omega)) (hk _ (by omega) (by omega))⟩
/-- a number of it is another one now -/
theorem Chan.put {sh : fl_S} {V : fl_V} {c : Nat} {y : Ch} (h : Chan sh V c y) {j k : Nat} (hk : k < 65536) (hj : j ≠ 14) : Chan sh (up2 V c j (nI k)) c (va_up y.1 j k, y.2) := by
  obtain ⟨g1, g2, g3, g4, g5, ⟨h1, g6⟩, ⟨h2, g7⟩, g8⟩ := h
  refine ⟨g1, fun i => ?_, g3, fun i hi => ?_, ?_, ⟨h1, g6.kept (fun a q1 q2 => up2_o (by omega))⟩, ⟨h2, g7.kept (fun a q1 q2 => up2_o (by omega))⟩, g8.kept (up2_o (by omega)) (up2_o (by omega))⟩
  · show va_up y.1 j k i < 65536
    unfold va_up
    split
    · exact hk
    · exact g2 i
  · by_cases hij : i = j
    · subst hij; simp [up2, va_up]
    · simp only [up2, va_up, if_true, if_neg hij]; exact g4 i hi
  · simp only [up2, if_true, if_neg (Ne.symm hj)]; exact g5
theorem Chan.putDue {sh : fl_S} {V : fl_V} {c : Nat} {y : Ch} (h : Chan sh V c y) {e : Option Nat} (hk : ∀ k, e = some k → k < 65536) : Chan sh (up2 V c 14 (dueI e)) c (y.1, e, y.2.2) := by
  obtain ⟨g1, g2, g3, g4, g5, ⟨h1, g6⟩, ⟨h2, g7⟩, g8⟩ := h
  refine ⟨g1, g2, hk, fun i hi => ?_, by simp [up2], ⟨h1, g6.kept (fun a q1 q2 => up2_o (by omega))⟩, ⟨h2, g7.kept (fun a q1 q2 => up2_o (by omega))⟩, g8.kept (up2_o (by omega)) (up2_o (by omega))⟩
  simp only [up2, if_true]
  rw [if_neg (by omega)]
  exact g4 i hi
theorem Chan.putTx {sh : fl_S} {V V' : fl_V} {c h : Nat} {y : Ch} {tx : List (List Nat)} (hC : Chan sh V c y) (hT : Texts sh V' (c + 1) 2 122 h tx) (hk : ∀ a, (a < c + 1 ∨ c + 7 ≤ a) → V' a = V a) : Chan sh V' c (y.1, y.2.1, tx, y.2.2.2) := by
  obtain ⟨g1, g2, g3, g4, g5, ⟨h1, g6⟩, ⟨h2, g7⟩, g8⟩ := hC
  have e0 : V' c = V c := hk c (by omega)
  exact ⟨g1, g2, g3, fun j hj => by rw [e0]; exact g4 j hj, by rw [e0]; exact g5, ⟨h, hT⟩, ⟨h2, g7.kept (fun a q1 q2 => hk a (by omega))⟩, g8.kept (hk _ (by omega)) (hk _ (by omega))⟩
theorem Chan.putRx {sh : fl_S} {V V' : fl_V} {c h : Nat} {y : Ch} {rx : List (List Nat)} (hC : Chan sh V c y) (hT : Texts sh V' (c + 7) 4 100 h rx) (hk : ∀ a, (a < c + 7 ∨ c + 17 ≤ a) → V' a = V a) : Chan sh V' c (y.1, y.2.1, y.2.2.1, rx, y.2.2.2.2) := by
  obtain ⟨g1, g2, g3, g4, g5, ⟨h1, g6⟩, ⟨h2, g7⟩, g8⟩ := hC
  have e0 : V' c = V c := hk c (by omega)
  exact ⟨g1, g2, g3, fun j hj => by rw [e0]; exact g4 j hj, by rw [e0]; exact g5, ⟨h1, g6.kept (fun a q1 q2 => hk a (by omega))⟩, ⟨h, hT⟩, g8.kept (hk _ (by omega)) (hk _ (by omega))⟩
theorem Chan.putGt {sh : fl_S} {V V' : fl_V} {c : Nat} {y : Ch} {gt : List Nat} (hC : Chan sh V c y) (hT : Row sh V' (c + 17) 100 gt) (hk : ∀ a, (a < c + 17 ∨ c + 19 ≤ a) → V' a = V a) : Chan sh V' c (y.1, y.2.1, y.2.2.1, y.2.2.2.1, gt) := by
  obtain ⟨g1, g2, g3, g4, g5, ⟨h1, g6⟩, ⟨h2, g7⟩, g8⟩ := hC
  have e0 : V' c = V c := hk c (by omega)
  exact ⟨g1, g2, g3, fun j hj => by rw [e0]; exact g4 j hj, by rw [e0]; exact g5, ⟨h1, g6.kept (fun a q1 q2 => hk a (by omega))⟩, ⟨h2, g7.kept (fun a q1 q2 => hk a (by omega))⟩, hT⟩
section CHAN
variable {cy : Nat → ClassId} {z0 : Nat} {ext : Nat → Nat → List Value → ev_H → Nat → ev_P → Prop} {d : Nat} {sh : fl_S} {V : fl_V} {n c : Nat} {y : Ch}
set_option maxRecDepth 100000 in
set_option maxHeartbeats 4000000 in
theorem e_Chan_setOwn {m p k : Nat} (hm : m < 65536) (hp : p < 65536) (hk : k < 65536) (hC : Chan sh V c y) : fl_M cy z0 ext (d + 2) m_X0_setOwn [.ref (z0 + c), .int (nI m), .int (nI p), .int (nI k)] sh V n (fun v sh' V' n' => v = none ∧ sh' = sh ∧ n' = n ∧ Chan sh V' c (va_up (va_up (va_up y.1 3 m) 4 p) 5 k, y.2.1, y.2.2.1, [], y.2.2.2.2) ∧ ∀ a, (a < c ∨ c + 19 ≤ a) → V' a = V a) := by
  obtain ⟨s0, g2, g3, g4, g5, ⟨h1, g6⟩, ⟨h2, g7⟩, g8⟩ := id hC
  unfold isChan at s0
  obtain ⟨t0, ga, t1, ta⟩ := id g6.1
  obtain ⟨r0, gb, r1, rb⟩ := id g7.1
  obtain ⟨w0, w1⟩ := id g8.1
  refine fs_body rfl rfl (fun Ret hP => ?_)
  refine fs_aload_n (pc2 := 1) rfl rfl rfl rfl ?_
  refine fs_iload_n (pc2 := 2) rfl rfl rfl rfl ?_
  refine fs_puti (pc2 := 5) rfl rfl rfl (by assumption) rfl True.intro ?_
  refine fs_aload_n (pc2 := 6) rfl rfl rfl rfl ?_
  refine fs_iload_n (pc2 := 7) rfl rfl rfl rfl ?_
  refine fs_puti (pc2 := 10) rfl rfl rfl (by assumption) rfl True.intro ?_
  refine fs_aload_n (pc2 := 11) rfl rfl rfl rfl ?_
  refine fs_iload_n (pc2 := 12) rfl rfl rfl rfl ?_
  refine fs_puti (pc2 := 15) rfl rfl rfl (by assumption) rfl True.intro ?_
  refine fs_aload_n (pc2 := 16) rfl rfl rfl rfl ?_
  refine fs_getr (pc2 := 19) rfl rfl rfl (by assumption) rfl ?_
  refine fs_callv (pc2 := 22) rfl rfl rfl rfl ⟨rfl, rfl⟩ (Nat.le_of_ble_eq_true rfl) (Nat.le_of_ble_eq_true rfl) (Nat.le_of_ble_eq_true rfl) (fs_rcv rfl (by assumption)) (e_Texts_clear (g7.kept (fun a q1 q2 => by rw [up2_o (by omega), up2_o (by omega), up2_o (by omega)]))) (fun v9 sh9 V9 n9 hp9 => ?_)
  obtain ⟨ea9, eb9, ec9, hT, hf⟩ := hp9
  cases ea9
  obtain rfl := eb9.symm
  obtain rfl := ec9.symm
  refine fs_ret rfl rfl ?_
  have hC1 := ((hC.put (j := 3) hm (by decide)).put (j := 4) hp (by decide)).put (j := 5) hk (by decide)
  exact hP _ _ _ _ ⟨rfl, rfl, rfl, hC1.putRx hT (fun a ha => hf a (by omega)), fun a ha => by rw [hf a (by omega), up2_o (by omega), up2_o (by omega), up2_o (by omega)]⟩
set_option maxRecDepth 100000 in
set_option maxHeartbeats 4000000 in
theorem e_Chan_open {f m p k : Nat} (hf : f < 65536) (hm : m < 65536) (hp : p < 65536) (hk : k < 65536) (hC : Chan sh V c y) : fl_M cy z0 ext (d + 1) m_X0_open [.ref (z0 + c), .int (nI f), .int (nI m), .int (nI p), .int (nI k)] sh V n (fun v sh' V' n' => v = none ∧ sh' = sh ∧ n' = n ∧ Chan sh V' c (va_up (va_up (va_up (va_up (va_up y.1 1 2) 6 f) 7 m) 8 p) 9 k, y.2) ∧ ∀ a, (a < c ∨ c + 19 ≤ a) → V' a = V a) := by
  obtain ⟨s0, g2, g3, g4, g5, ⟨h1, g6⟩, ⟨h2, g7⟩, g8⟩ := id hC
  unfold isChan at s0
  obtain ⟨t0, ga, t1, ta⟩ := id g6.1
  obtain ⟨r0, gb, r1, rb⟩ := id g7.1
  obtain ⟨w0, w1⟩ := id g8.1
  refine fs_body rfl rfl (fun Ret hP => ?_)
  refine fs_aload_n (pc2 := 1) rfl rfl rfl rfl ?_
  refine fs_iconst (pc2 := 2) rfl rfl rfl ?_
  refine fs_puti (pc2 := 5) rfl rfl rfl (by assumption) rfl True.intro ?_
  refine fs_aload_n (pc2 := 6) rfl rfl rfl rfl ?_
  refine fs_iload_n (pc2 := 7) rfl rfl rfl rfl ?_
  refine fs_puti (pc2 := 10) rfl rfl rfl (by assumption) rfl True.intro ?_
  refine fs_aload_n (pc2 := 11) rfl rfl rfl rfl ?_
  refine fs_iload_n (pc2 := 12) rfl rfl rfl rfl ?_
  refine fs_puti (pc2 := 15) rfl rfl rfl (by assumption) rfl True.intro ?_
  refine fs_aload_n (pc2 := 16) rfl rfl rfl rfl ?_
  refine fs_iload_n (pc2 := 17) rfl rfl rfl rfl ?_
  refine fs_puti (pc2 := 20) rfl rfl rfl (by assumption) rfl True.intro ?_
  refine fs_aload_n (pc2 := 21) rfl rfl rfl rfl ?_
  refine fs_iload (pc2 := 23) rfl rfl rfl rfl ?_
  refine fs_puti (pc2 := 26) rfl rfl rfl (by assumption) rfl True.intro ?_
  refine fs_ret rfl rfl ?_
  exact hP _ _ _ _ ⟨rfl, rfl, rfl, ((((hC.put (j := 1) (k := 2) (by decide) (by decide)).put (j := 6) hf (by decide)).put (j := 7) hm (by decide)).put (j := 8) hp (by decide)).put (j := 9) hk (by decide), fun a ha => by rw [up2_o (by omega), up2_o (by omega), up2_o (by omega), up2_o (by omega), up2_o (by omega)]⟩
set_option maxRecDepth 100000 in
set_option maxHeartbeats 4000000 in
theorem e_Chan_forgetTexts (hC : Chan sh V c y) : fl_M cy z0 ext (d + 2) m_X0_forgetTexts [.ref (z0 + c)] sh V n (fun v sh' V' n' => v = none ∧ sh' = sh ∧ n' = n ∧ Chan sh V' c (va_up y.1 11 0, none, [], y.2.2.2.1, []) ∧ ∀ a, (a < c ∨ c + 19 ≤ a) → V' a = V a) := by
  obtain ⟨s0, g2, g3, g4, g5, ⟨h1, g6⟩, ⟨h2, g7⟩, g8⟩ := id hC
  unfold isChan at s0
  obtain ⟨t0, ga, t1, ta⟩ := id g6.1
  obtain ⟨r0, gb, r1, rb⟩ := id g7.1
  obtain ⟨w0, w1⟩ := id g8.1
  refine fs_body rfl rfl (fun Ret hP => ?_)
  refine fs_aload_n (pc2 := 1) rfl rfl rfl rfl ?_
  refine fs_getr (pc2 := 4) rfl rfl rfl (by assumption) rfl ?_
  refine fs_callv (pc2 := 7) rfl rfl rfl rfl ⟨rfl, rfl⟩ (Nat.le_of_ble_eq_true rfl) (Nat.le_of_ble_eq_true rfl) (Nat.le_of_ble_eq_true rfl) (fs_rcv rfl (by assumption)) (e_Texts_clear g6) (fun v9 sh9 V9 n9 hp9 => ?_)
  obtain ⟨ea9, eb9, ec9, hT, hf⟩ := hp9
  cases ea9
  obtain rfl := eb9.symm
  obtain rfl := ec9.symm
  have c1 : Chan sh V9 c (y.1, y.2.1, [], y.2.2.2) := hC.putTx hT (fun a ha => hf a (by omega))
  have c2 := c1.put (j := 11) (k := 0) (by decide) (by decide)
  refine fs_aload_n (pc2 := 8) rfl rfl rfl rfl ?_
  refine fs_iconst (pc2 := 9) rfl rfl rfl ?_
  refine fs_puti (pc2 := 12) rfl rfl rfl (by assumption) rfl True.intro ?_
  refine fs_aload_n (pc2 := 13) rfl rfl rfl rfl ?_
  refine fs_getr (pc2 := 16) rfl rfl rfl (by assumption) rfl ?_
  refine fs_callv (pc2 := 19) rfl rfl rfl rfl ⟨rfl, rfl⟩ (Nat.le_of_ble_eq_true rfl) (Nat.le_of_ble_eq_true rfl) (Nat.le_of_ble_eq_true rfl) (fs_rcv rfl (by assumption)) (e_Row_clear c2.2.2.2.2.2.2.2) (fun v9 sh9 V9 n9 hp9 => ?_)
  obtain ⟨ea9, eb9, ec9, hr, hf2⟩ := hp9
  cases ea9
  obtain rfl := eb9.symm
  obtain rfl := ec9.symm
  have c3 := c2.putGt hr (fun a ha => hf2 a (by omega))
  refine fs_aload_n (pc2 := 20) rfl rfl rfl rfl ?_
  refine fs_iconst (pc2 := 21) rfl rfl rfl ?_
  refine fs_puti (pc2 := 24) rfl rfl rfl (by assumption) rfl True.intro ?_
  refine fs_ret rfl rfl ?_
  exact hP _ _ _ _ ⟨rfl, rfl, rfl, c3.putDue (e := none) (fun k hk => by cases hk), fun a ha => by rw [up2_o (by omega), hf2 a (by omega), up2_o (by omega), hf a (by omega)]⟩
set_option maxRecDepth 100000 in
set_option maxHeartbeats 4000000 in
theorem e_Chan_close (hC : Chan sh V c y) : fl_M cy z0 ext (d + 3) m_X0_close [.ref (z0 + c)] sh V n (fun v sh' V' n' => v = none ∧ sh' = sh ∧ n' = n ∧ Chan sh V' c (va_up (va_up (va_up (va_up (va_up (va_up (va_up y.1 1 0) 5 0) 6 0) 7 0) 8 0) 9 0) 11 0, none, [], y.2.2.2.1, []) ∧ ∀ a, (a < c ∨ c + 19 ≤ a) → V' a = V a) := by
  obtain ⟨s0, g2, g3, g4, g5, ⟨h1, g6⟩, ⟨h2, g7⟩, g8⟩ := id hC
  unfold isChan at s0
  obtain ⟨t0, ga, t1, ta⟩ := id g6.1
  obtain ⟨r0, gb, r1, rb⟩ := id g7.1
  obtain ⟨w0, w1⟩ := id g8.1
  refine fs_body rfl rfl (fun Ret hP => ?_)
  refine fs_aload_n (pc2 := 1) rfl rfl rfl rfl ?_
  refine fs_iconst (pc2 := 2) rfl rfl rfl ?_
  refine fs_puti (pc2 := 5) rfl rfl rfl (by assumption) rfl True.intro ?_
  refine fs_aload_n (pc2 := 6) rfl rfl rfl rfl ?_
  refine fs_iconst (pc2 := 7) rfl rfl rfl ?_
  refine fs_puti (pc2 := 10) rfl rfl rfl (by assumption) rfl True.intro ?_
  refine fs_aload_n (pc2 := 11) rfl rfl rfl rfl ?_
  refine fs_iconst (pc2 := 12) rfl rfl rfl ?_
  refine fs_puti (pc2 := 15) rfl rfl rfl (by assumption) rfl True.intro ?_
  refine fs_aload_n (pc2 := 16) rfl rfl rfl rfl ?_
  refine fs_iconst (pc2 := 17) rfl rfl rfl ?_
  refine fs_puti (pc2 := 20) rfl rfl rfl (by assumption) rfl True.intro ?_
  refine fs_aload_n (pc2 := 21) rfl rfl rfl rfl ?_
  refine fs_iconst (pc2 := 22) rfl rfl rfl ?_
  refine fs_puti (pc2 := 25) rfl rfl rfl (by assumption) rfl True.intro ?_
  refine fs_aload_n (pc2 := 26) rfl rfl rfl rfl ?_
  refine fs_iconst (pc2 := 27) rfl rfl rfl ?_
  refine fs_puti (pc2 := 30) rfl rfl rfl (by assumption) rfl True.intro ?_
  refine fs_aload_n (pc2 := 31) rfl rfl rfl rfl ?_
  refine fs_callv (pc2 := 34) rfl rfl rfl rfl ⟨rfl, rfl⟩ (Nat.le_of_ble_eq_true rfl) (Nat.le_of_ble_eq_true rfl) (Nat.le_of_ble_eq_true rfl) (fs_rcv rfl (by assumption)) (e_Chan_forgetTexts ((((((hC.put (j := 1) (k := 0) (by decide) (by decide)).put (j := 5) (k := 0) (by decide) (by decide)).put (j := 6) (k := 0) (by decide) (by decide)).put (j := 7) (k := 0) (by decide) (by decide)).put (j := 8) (k := 0) (by decide) (by decide)).put (j := 9) (k := 0) (by decide) (by decide))) (fun v9 sh9 V9 n9 hp9 => ?_)
  obtain ⟨ea9, eb9, ec9, c1, hf⟩ := hp9
  cases ea9
  obtain rfl := eb9.symm
  obtain rfl := ec9.symm
  refine fs_ret rfl rfl ?_
  exact hP _ _ _ _ ⟨rfl, rfl, rfl, c1, fun a ha => by rw [hf a ha, up2_o (by omega), up2_o (by omega), up2_o (by omega), up2_o (by omega), up2_o (by omega), up2_o (by omega)]⟩
def ch_far (y : Ch) (k : Nat) : Bool := (y.1 1 == 2 || y.1 1 == 3) && y.1 6 == k
def ch_seg (y : Ch) : Bool := y.1 1 == 2 && (!y.2.2.1.isEmpty && decide (0 < y.1 9))
theorem Chan.i {sh : fl_S} {V : fl_V} {c : Nat} {y : Ch} (h : Chan sh V c y) (j : Nat) (hj : j < 10 ∨ j = 11) : V c j = nI (y.1 j) ∧ y.1 j < 2 ^ 31 := ⟨h.2.2.2.1 j hj, Nat.lt_trans (h.2.1 j) (by decide)⟩
set_option maxRecDepth 100000 in
set_option maxHeartbeats 4000000 in
theorem e_Chan_hasFar {k : Nat} (hk : k < 2 ^ 31) (hC : Chan sh V c y) : fl_M cy z0 ext (d + 1) m_X0_hasFar [.ref (z0 + c), .int (nI k)] sh V n (fun v sh' V' n' => v = some (.int (bI (ch_far y k))) ∧ sh' = sh ∧ n' = n ∧ V' = V) := by
  obtain ⟨s0, g2, g3, g4, g5, ⟨h1, g6⟩, ⟨h2, g7⟩, g8⟩ := id hC
  unfold isChan at s0
  obtain ⟨t0, ga, t1, ta⟩ := id g6.1
  obtain ⟨r0, gb, r1, rb⟩ := id g7.1
  obtain ⟨w0, w1⟩ := id g8.1
  obtain ⟨e1, l1⟩ := hC.i 1 (by omega)
  obtain ⟨e6, l6⟩ := hC.i 6 (by omega)
  refine fs_body rfl rfl (fun Ret hP => ?_)
  refine fs_aload_n (pc2 := 1) rfl rfl rfl rfl ?_
  refine fs_geti (pc2 := 4) rfl rfl rfl (by assumption) rfl ?_
  refine fs_iconst (pc2 := 5) rfl rfl rfl ?_
  refine fs_icmp_eq (pc2 := 8) rfl rfl rfl (fun h5 => ?_) (fun h5 => ?_)
  · rw [e1] at h5
    have k5 : y.1 1 = 2 := (nI_eq l1 (by decide)).mp h5
    refine fs_aload_n (pc2 := 17) rfl rfl rfl rfl ?_
    refine fs_geti (pc2 := 20) rfl rfl rfl (by assumption) rfl ?_
    refine fs_iload_n (pc2 := 21) rfl rfl rfl rfl ?_
    refine fs_icmp_ne (pc2 := 24) rfl rfl rfl (fun h21 => ?_) (fun h21 => ?_)
    · rw [e6] at h21
      have k21 : y.1 6 ≠ k := fun z => h21 (by rw [z])
      refine fs_iconst (pc2 := 29) rfl rfl rfl ?_
      refine fs_iret rfl rfl (Or.inl rfl) ?_
      refine hP _ _ _ _ ⟨?_, rfl, rfl, rfl⟩
      rw [show ch_far y k = false from by simp [ch_far, k5, k21]]
      rfl
    · rw [e6] at h21
      have k21 : y.1 6 = k := (nI_eq l6 hk).mp h21
      refine fs_iconst (pc2 := 25) rfl rfl rfl ?_
      refine fs_goto rfl rfl ?_
      refine fs_iret rfl rfl (Or.inr rfl) ?_
      refine hP _ _ _ _ ⟨?_, rfl, rfl, rfl⟩
      rw [show ch_far y k = true from by simp [ch_far, k5, k21]]
      rfl
  · rw [e1] at h5
    have k5 : y.1 1 ≠ 2 := fun z => h5 (by rw [z]; rfl)
    refine fs_aload_n (pc2 := 9) rfl rfl rfl rfl ?_
    refine fs_geti (pc2 := 12) rfl rfl rfl (by assumption) rfl ?_
    refine fs_iconst (pc2 := 13) rfl rfl rfl ?_
    refine fs_icmp_ne (pc2 := 16) rfl rfl rfl (fun h13 => ?_) (fun h13 => ?_)
    · rw [e1] at h13
      have k13 : y.1 1 ≠ 3 := fun z => h13 (by rw [z]; rfl)
      refine fs_iconst (pc2 := 29) rfl rfl rfl ?_
      refine fs_iret rfl rfl (Or.inl rfl) ?_
      refine hP _ _ _ _ ⟨?_, rfl, rfl, rfl⟩
      rw [show ch_far y k = false from by simp [ch_far, k5, k13]]
      rfl
    · rw [e1] at h13
      have k13 : y.1 1 = 3 := (nI_eq l1 (by decide)).mp h13
      refine fs_aload_n (pc2 := 17) rfl rfl rfl rfl ?_
      refine fs_geti (pc2 := 20) rfl rfl rfl (by assumption) rfl ?_
      refine fs_iload_n (pc2 := 21) rfl rfl rfl rfl ?_
      refine fs_icmp_ne (pc2 := 24) rfl rfl rfl (fun h21 => ?_) (fun h21 => ?_)
      · rw [e6] at h21
        have k21 : y.1 6 ≠ k := fun z => h21 (by rw [z])
        refine fs_iconst (pc2 := 29) rfl rfl rfl ?_
        refine fs_iret rfl rfl (Or.inl rfl) ?_
        refine hP _ _ _ _ ⟨?_, rfl, rfl, rfl⟩
        rw [show ch_far y k = false from by simp [ch_far, k5, k13, k21]]
        rfl
      · rw [e6] at h21
        have k21 : y.1 6 = k := (nI_eq l6 hk).mp h21
        refine fs_iconst (pc2 := 25) rfl rfl rfl ?_
        refine fs_goto rfl rfl ?_
        refine fs_iret rfl rfl (Or.inr rfl) ?_
        refine hP _ _ _ _ ⟨?_, rfl, rfl, rfl⟩
        rw [show ch_far y k = true from by simp [ch_far, k5, k13, k21]]
        rfl
set_option maxRecDepth 100000 in
set_option maxHeartbeats 4000000 in
theorem e_Chan_hasSegment (hC : Chan sh V c y) : fl_M cy z0 ext (d + 1) m_X0_hasSegment [.ref (z0 + c)] sh V n (fun v sh' V' n' => v = some (.int (bI (ch_seg y))) ∧ sh' = sh ∧ n' = n ∧ V' = V) := by
  obtain ⟨s0, g2, g3, g4, g5, ⟨h1, g6⟩, ⟨h2, g7⟩, g8⟩ := id hC
  unfold isChan at s0
  obtain ⟨t0, ga, t1, ta⟩ := id g6.1
  obtain ⟨r0, gb, r1, rb⟩ := id g7.1
  obtain ⟨w0, w1⟩ := id g8.1
  obtain ⟨e1, l1⟩ := hC.i 1 (by omega)
  obtain ⟨e9, l9⟩ := hC.i 9 (by omega)
  have et : V (c + 1) 2 = nI y.2.2.1.length := g6.2.2.2.2.2.1
  have lt : y.2.2.1.length ≤ 2 := g6.2.2.2.1
  refine fs_body rfl rfl (fun Ret hP => ?_)
  refine fs_aload_n (pc2 := 1) rfl rfl rfl rfl ?_
  refine fs_geti (pc2 := 4) rfl rfl rfl (by assumption) rfl ?_
  refine fs_iconst (pc2 := 5) rfl rfl rfl ?_
  refine fs_icmp_ne (pc2 := 8) rfl rfl rfl (fun h5 => ?_) (fun h5 => ?_)
  · rw [e1] at h5
    have k5 : y.1 1 ≠ 2 := fun z => h5 (by rw [z]; rfl)
    refine fs_iconst (pc2 := 30) rfl rfl rfl ?_
    refine fs_iret rfl rfl (Or.inl rfl) ?_
    refine hP _ _ _ _ ⟨?_, rfl, rfl, rfl⟩
    rw [show ch_seg y = false from by simp [ch_seg, k5]]
    rfl
  · rw [e1] at h5
    have k5 : y.1 1 = 2 := (nI_eq l1 (by decide)).mp h5
    refine fs_aload_n (pc2 := 9) rfl rfl rfl rfl ?_
    refine fs_getr (pc2 := 12) rfl rfl rfl (by assumption) rfl ?_
    refine fs_geti (pc2 := 15) rfl rfl rfl (by assumption) rfl ?_
    refine fs_if_le (pc2 := 18) rfl rfl rfl (fun h15 => ?_) (fun h15 => ?_)
    · rw [et] at h15
      have k15 : y.2.2.1 = [] := by
        rcases Nat.eq_zero_or_pos y.2.2.1.length with z | z
        · exact List.length_eq_zero_iff.mp z
        · exact absurd h15 (nI_nle z (by omega))
      refine fs_iconst (pc2 := 30) rfl rfl rfl ?_
      refine fs_iret rfl rfl (Or.inl rfl) ?_
      refine hP _ _ _ _ ⟨?_, rfl, rfl, rfl⟩
      rw [show ch_seg y = false from by simp [ch_seg, k5, k15]]
      rfl
    · rw [et] at h15
      have k15 : y.2.2.1 ≠ [] := fun z => h15 (by rw [z]; exact nI_0 ▸ Int32.le_refl _)
      refine fs_aload_n (pc2 := 19) rfl rfl rfl rfl ?_
      refine fs_geti (pc2 := 22) rfl rfl rfl (by assumption) rfl ?_
      refine fs_if_le (pc2 := 25) rfl rfl rfl (fun h22 => ?_) (fun h22 => ?_)
      · rw [e9] at h22
        have k22 : y.1 9 = 0 := by
          rcases Nat.eq_zero_or_pos (y.1 9) with z | z
          · exact z
          · exact absurd h22 (nI_nle z l9)
        refine fs_iconst (pc2 := 30) rfl rfl rfl ?_
        refine fs_iret rfl rfl (Or.inl rfl) ?_
        refine hP _ _ _ _ ⟨?_, rfl, rfl, rfl⟩
        rw [show ch_seg y = false from by simp [ch_seg, k5, k15, k22]]
        rfl
      · rw [e9] at h22
        have k22 : 0 < y.1 9 := Nat.pos_of_ne_zero (fun z => h22 (by rw [z]; exact nI_0 ▸ Int32.le_refl _))
        refine fs_iconst (pc2 := 26) rfl rfl rfl ?_
        refine fs_goto rfl rfl ?_
        refine fs_iret rfl rfl (Or.inr rfl) ?_
        refine hP _ _ _ _ ⟨?_, rfl, rfl, rfl⟩
        rw [show ch_seg y = true from by simp [ch_seg, k5, k15, k22]]
        rfl
end CHAN
