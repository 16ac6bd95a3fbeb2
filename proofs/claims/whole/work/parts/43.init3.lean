def CLZ (sh : fl_S) (V : fl_V) (a0 c : Nat) : Prop := isCL sh c ∧ (∃ g, sh (c + 1) = some (.inl (5, 2, some (.inl g))) ∧ ∀ i, i < 2 → g i = some (c + 2 + 184 * i)) ∧ (∀ i, i < 2 → HostZ sh V a0 (c + 2 + 184 * i)) ∧ Row sh V (c + 370) 120 [] ∧ Row sh V (c + 372) 124 []
section INIT3
variable {cy : Nat → ClassId} {z0 : Nat} {ext : Nat → Nat → List Value → ev_H → Nat → ev_P → Prop} {d : Nat} {sh : fl_S} {V : fl_V} {n : Nat}
theorem CLZ.kept {sh' : fl_S} {V' : fl_V} {a0 c : Nat} (h : CLZ sh V a0 c) (hk : ∀ a, c ≤ a → a < c + 374 → sh' a = sh a ∧ V' a = V a) : CLZ sh' V' a0 c := by
  obtain ⟨g1, ⟨g, g2, g3⟩, g4, g5, g6⟩ := h
  exact ⟨by unfold isCL; rw [(hk c (by omega) (by omega)).1]; exact g1, ⟨g, by rw [(hk _ (by omega) (by omega)).1]; exact g2, g3⟩, fun i hi => (g4 i hi).kept (fun a a1 a2 => hk a (by omega) (by omega)), (g5.shape (hk _ (by omega) (by omega)).1 (hk _ (by omega) (by omega)).1).kept (hk _ (by omega) (by omega)).2 (hk _ (by omega) (by omega)).2, (g6.shape (hk _ (by omega) (by omega)).1 (hk _ (by omega) (by omega)).1).kept (hk _ (by omega) (by omega)).2 (hk _ (by omega) (by omega)).2⟩
theorem CLZ.cl {K a0 c : Nat} (h : CLZ sh V a0 c) (hK : c + 374 ≤ K) (hn : K ≤ n) (ha : a0 < c) (h0 : eAr a0 0 (fun _ => none) sh) : CL sh V n K a0 c (fun _ => a0) (fun _ => []) [] (fun _ => ho0) := by
  obtain ⟨g1, g2, g4, g5, g6⟩ := h
  exact ⟨g1, g2, fun i hi => (g4 i hi).host (by omega) hn (by omega) h0, g5, ⟨[], g6⟩, fun _ => rfl, ha, hK⟩
set_option maxRecDepth 100000 in
set_option maxHeartbeats 4000000 in
theorem e_Link_init_loop {c a0 : Nat} (hA : AlInit cy z0 a0 ext) (ha : a0 < c) {sh0 : fl_S} {V0 : fl_V} (h0 : eAr a0 0 (fun _ => none) sh0) {Ret : ev_P} (hP : ∀ (sh : fl_S) (V : fl_V) (g : Nat → Option Nat), sh c = some (.inr (7, [some (some (c + 1)), some none, some none])) → sh (c + 1) = some (.inl (5, 2, some (.inl g))) → (∀ j, j < 2 → g j = some (c + 2 + 184 * j)) → (∀ j, j < 2 → HostZ sh V a0 (c + 2 + 184 * j)) → V c = (fun _ => 0) → (∀ a, a < c → sh a = sh0 a ∧ V a = V0 a) → fl_R cy z0 (ev_M cy ext (d + 10)) 6 405 19060 2 none kc_X6_init Ret 38 [(0, .ref (z0 + c)), (1, .int (nI 2))] [] sh V (c + 370) 401 18800) : ∀ (k i : Nat), i + k = 2 → ∀ (sh : fl_S) (V : fl_V) (n cc ss : Nat) (g : Nat → Option Nat), n = c + 2 + 184 * i → cc = 1 + 200 * i → ss = 2 + 9399 * i → sh c = some (.inr (7, [some (some (c + 1)), some none, some none])) → sh (c + 1) = some (.inl (5, 2, some (.inl g))) → (∀ j, j < i → g j = some (c + 2 + 184 * j)) → (∀ j, j < i → HostZ sh V a0 (c + 2 + 184 * j)) → V c = (fun _ => 0) → (∀ a, a < c → sh a = sh0 a ∧ V a = V0 a) → fl_R cy z0 (ev_M cy ext (d + 10)) 6 405 19060 2 none kc_X6_init Ret 14 [(0, .ref (z0 + c)), (1, .int (nI i))] [] sh V n cc ss := by
  intro k
  induction k with
  | zero =>
    intro i hik sh V n cc ss g hn hcc hss q1 q2 q3 q4 q5 q6
    have hi : i = 2 := by omega
    subst hi
    subst hn
    subst hcc
    subst hss
    refine fs_iload_n (pc2 := 15) rfl rfl rfl rfl ?_
    refine fs_iconst (pc2 := 16) rfl rfl rfl ?_
    refine fs_icmp_ge (pc2 := 19) rfl rfl rfl (fun h16 => ?_) (fun h16 => ?_)
    · exact hP _ _ g q1 q2 q3 q4 q5 q6
    · exact absurd h16 (by decide)
  | succ k ih =>
    intro i hik sh V n cc ss g hn hcc hss q1 q2 q3 q4 q5 q6
    have i1 : vp_in (nI i) 2 := vp_in_nI (by omega) (by decide)
    have ei : (nI i).toNatClampNeg = i := nI_clamp (by omega)
    refine fs_iload_n (pc2 := 15) rfl rfl rfl rfl ?_
    refine fs_iconst (pc2 := 16) rfl rfl rfl ?_
    refine fs_icmp_ge (pc2 := 19) rfl rfl rfl (fun h16 => ?_) (fun h16 => ?_)
    · exact absurd (nI_lt (a := i) (b := 2) (by omega) (by decide)) h16
    · refine fs_aload_n (pc2 := 20) rfl rfl rfl rfl ?_
      refine fs_getr (pc2 := 23) rfl rfl rfl (by assumption) rfl ?_
      refine fs_iload_n (pc2 := 24) rfl rfl rfl rfl ?_
      refine fs_new (slots := [some none, some none, some none, some none, some none, some none, some none, none, some none, none, none, none, none, none]) (pc2 := 27) rfl rfl rfl (by first | omega | (dsimp only; omega) | (simp only [nf_0, nf_1, nf_2, nf_3, nf_4, nf_5, nf_6, nf_7]; omega)) (by show _ + 14 ≤ _; first | omega | (dsimp only; omega)) rfl ?_
      first | refine fs_dup_r (pc2 := 28) rfl rfl rfl ?_ | refine fs_dup_i (pc2 := 28) rfl rfl rfl ?_
      refine fs_callc (pc2 := 31) rfl rfl rfl rfl rfl ⟨rfl, rfl⟩ (Nat.le_of_ble_eq_true rfl) (by first | omega | (dsimp only; omega) | (simp only [nf_0, nf_1, nf_2, nf_3, nf_4, nf_5, nf_6, nf_7]; omega)) (by first | omega | (dsimp only; omega) | (simp only [nf_0, nf_1, nf_2, nf_3, nf_4, nf_5, nf_6, nf_7]; omega)) trivial (e_Host_init (hb := n) (a0 := a0) hA (by omega) (by unfold eAr; rw [va_up_ne _ _ (by omega), (q6 a0 ha).1]; exact h0) (va_up_self _ _ _) (va_up_self _ _ _) rfl) (fun v9 sh9 V9 n9 hp9 => ?_)
      obtain ⟨ea9, eb9, pk, fr⟩ := hp9
      cases ea9
      obtain rfl := eb9.symm
      have s0 : sh9 c = some (.inr (7, [some (some (c + 1)), some none, some none])) := by rw [(fr c (by omega)).1, va_up_ne _ _ (by omega)]; exact q1
      have s1 : sh9 (c + 1) = some (.inl (5, 2, some (.inl g))) := by rw [(fr _ (by omega)).1, va_up_ne _ _ (by omega)]; exact q2
      have pk0 := pk.1
      unfold isHo at pk0
      refine fs_aast (ci := 0) (pc2 := 32) rfl rfl rfl (by assumption) (by assumption) i1 ?_
      refine fs_iinc (pc2 := 35) rfl rfl rfl (Nat.le_of_ble_eq_true rfl) rfl ?_
      refine fs_goto rfl rfl ?_
      rw [nI_1 i, ei]
      refine ih (i + 1) (by omega) _ _ _ _ _ (va_up g i (some n)) (by omega) (by first | omega | (dsimp only; omega)) (by show ss + 14 + 9385 = _; omega) ?_ ?_ ?_ ?_ ?_ ?_
      · rw [va_up_ne _ _ (by omega)]; exact s0
      · exact va_up_self _ _ _
      · intro j hj
        by_cases hji : j = i
        · rw [hji, va_up_self, hn]
        · rw [va_up_ne _ _ hji]; exact q3 j (by omega)
      · intro j hj
        by_cases hji : j = i
        · rw [hji, ← hn]; exact pk.kept (fun a _ _ => ⟨va_up_ne _ _ (by omega), rfl⟩)
        · have f0 : ∀ a, c + 2 ≤ a → a < n → va_up sh9 (c + 1) (some (.inl (5, 2, some (.inl (va_up g i (some n)))))) a = sh a ∧ V9 a = V a := fun a a1 a2 => ⟨by rw [va_up_ne _ _ (by omega), (fr a a2).1, va_up_ne _ _ (by omega)], by rw [(fr a a2).2, va_up_ne _ _ (by omega)]⟩
          exact (q4 j (by omega)).kept (fun a _ _ => f0 a (by omega) (by omega))
      · rw [(fr c (by omega)).2, va_up_ne _ _ (by omega)]; exact q5
      · intro a ha
        rw [va_up_ne _ _ (by omega), (fr a (by omega)).1, (fr a (by omega)).2, va_up_ne _ _ (by omega), va_up_ne _ _ (by omega)]
        exact q6 a ha
set_option maxRecDepth 100000 in
set_option maxHeartbeats 4000000 in
theorem e_Link_init {c : Nat} {a0 : Nat} (hA : AlInit cy z0 a0 ext) (ha : a0 < c) (h0 : eAr a0 0 (fun _ => none) sh) (hs : sh c = some (.inr (7, [some none, some none, some none]))) (hv : V c = fun _ => 0) (hn : n = c + 1) : fl_M cy z0 ext (d + 11) m_X6_init [.ref (z0 + c)] sh V n (fun v sh' V' n' => v = none ∧ n' = c + 374 ∧ CLZ sh' V' a0 c ∧ ∀ a, a < c → sh' a = sh a ∧ V' a = V a) := by
  subst hn
  have ec : (2 : Int32).toNatClampNeg = 2 := by decide
  have hs1 : va_up sh (c + 1) (some (.inl (5, (2 : Int32).toNatClampNeg, some (.inl fun _ => none)))) c = some (.inr (7, [some none, some none, some none])) := by rw [va_up_ne _ _ (by omega)]; exact hs
  refine fs_body rfl rfl (fun Ret hP => ?_)
  have k38 : ∀ (sh1 : fl_S) (V1 : fl_V) (g : Nat → Option Nat), sh1 c = some (.inr (7, [some (some (c + 1)), some none, some none])) → sh1 (c + 1) = some (.inl (5, 2, some (.inl g))) → (∀ j, j < 2 → g j = some (c + 2 + 184 * j)) → (∀ j, j < 2 → HostZ sh1 V1 a0 (c + 2 + 184 * j)) → V1 c = (fun _ => 0) → (∀ a, a < c → sh1 a = sh a ∧ V1 a = V a) → fl_R cy z0 (ev_M cy ext (d + 10)) 6 405 19060 2 none kc_X6_init Ret 38 [(0, .ref (z0 + c)), (1, .int (nI 2))] [] sh1 V1 (c + 370) 401 18800 := by
    intro sh1 V1 g q1 q2 q3 q4 q5 q6
    refine fs_aload_n (pc2 := 39) rfl rfl rfl rfl ?_
    refine fs_new (slots := [some none, none]) (pc2 := 42) rfl rfl rfl (Nat.le_of_ble_eq_true rfl) (Nat.le_of_ble_eq_true rfl) rfl ?_
    first | refine fs_dup_r (pc2 := 43) rfl rfl rfl ?_ | refine fs_dup_i (pc2 := 43) rfl rfl rfl ?_
    refine fs_bipush (pc2 := 45) rfl rfl rfl ?_
    refine fs_callc (pc2 := 48) rfl rfl rfl rfl rfl ⟨rfl, rfl⟩ (Nat.le_of_ble_eq_true rfl) (Nat.le_of_ble_eq_true rfl) (Nat.le_of_ble_eq_true rfl) trivial (e_Row_init (r := c + 370) (room := 120) (by decide) (va_up_self _ _ _) (by rw [va_up_self]) rfl) (fun v9 sh9 V9 n9 hp9 => ?_)
    obtain ⟨ea9, eb9, R1, hs1b, hv1b⟩ := hp9
    cases ea9
    obtain rfl := eb9.symm
    have s7 : sh9 c = some (.inr (7, [some (some (c + 1)), some none, some none])) := by rw [hs1b c (by omega) (by omega), va_up_ne _ _ (by omega)]; exact q1
    refine fs_putr (pc2 := 51) rfl rfl rfl (by assumption) (Nat.le_of_ble_eq_true rfl) True.intro ?_
    refine fs_aload_n (pc2 := 52) rfl rfl rfl rfl ?_
    refine fs_new (slots := [some none, none]) (pc2 := 55) rfl rfl rfl (Nat.le_of_ble_eq_true rfl) (Nat.le_of_ble_eq_true rfl) rfl ?_
    first | refine fs_dup_r (pc2 := 56) rfl rfl rfl ?_ | refine fs_dup_i (pc2 := 56) rfl rfl rfl ?_
    refine fs_bipush (pc2 := 58) rfl rfl rfl ?_
    refine fs_callc (pc2 := 61) rfl rfl rfl rfl rfl ⟨rfl, rfl⟩ (Nat.le_of_ble_eq_true rfl) (Nat.le_of_ble_eq_true rfl) (Nat.le_of_ble_eq_true rfl) trivial (e_Row_init (r := c + 372) (room := 124) (by decide) (va_up_self _ _ _) (by rw [va_up_self]) rfl) (fun v9 sh9 V9 n9 hp9 => ?_)
    obtain ⟨ea9, eb9, R2, hs2b, hv2b⟩ := hp9
    cases ea9
    obtain rfl := eb9.symm
    have s8 : sh9 c = some (.inr (7, [some (some (c + 1)), some (some (c + 370)), some none])) := by rw [hs2b c (by omega) (by omega), va_up_ne _ _ (by omega), va_up_self]; rfl
    refine fs_putr (pc2 := 64) rfl rfl rfl (by assumption) (Nat.le_of_ble_eq_true rfl) True.intro ?_
    refine fs_ret rfl rfl ?_
    have sF : ∀ a, a ≠ c → a < c + 370 → va_up sh9 c (some (.inr (7, [some (some (c + 1)), some (some (c + 370)), some none].set 2 (some (some (c + 372)))))) a = sh1 a := fun a a1 a2 => by rw [va_up_ne _ _ a1, hs2b a (by omega) (by omega), va_up_ne _ _ (by omega), va_up_ne _ _ a1, hs1b a (by omega) (by omega), va_up_ne _ _ (by omega)]
    have vF : ∀ a, a < c + 370 → V9 a = V1 a := fun a a2 => by rw [hv2b a (by omega), va_up_ne _ _ (by omega), hv1b a (by omega), va_up_ne _ _ (by omega)]
    refine hP _ _ _ _ ⟨rfl, rfl, ⟨?_, ⟨g, ?_, q3⟩, fun j hj => ?_, ?_, ?_⟩, fun a ha => ⟨?_, ?_⟩⟩
    · unfold isCL; rw [va_up_self]; rfl
    · rw [sF _ (by omega) (by omega)]; exact q2
    · exact (q4 j hj).kept (fun a a1 a2 => ⟨sF a (by omega) (by omega), vF a (by omega)⟩)
    · exact (R1.shape (by rw [va_up_ne _ _ (by omega), hs2b _ (by omega) (by omega), va_up_ne _ _ (by omega), va_up_ne _ _ (by omega)]) (by rw [va_up_ne _ _ (by omega), hs2b _ (by omega) (by omega), va_up_ne _ _ (by omega), va_up_ne _ _ (by omega)])).kept (by rw [hv2b _ (by omega), va_up_ne _ _ (by omega)]) (by rw [hv2b _ (by omega), va_up_ne _ _ (by omega)])
    · exact R2.shape (va_up_ne _ _ (by omega)) (va_up_ne _ _ (by omega))
    · rw [sF a (by omega) (by omega)]; exact (q6 a ha).1
    · rw [vF a (by omega)]; exact (q6 a ha).2
  refine fs_aload_n (pc2 := 1) rfl rfl rfl rfl ?_
  refine fs_objinit (pc2 := 4) rfl rfl rfl rfl (Nat.le_of_ble_eq_true rfl) ?_
  refine fs_aload_n (pc2 := 5) rfl rfl rfl rfl ?_
  refine fs_iconst (pc2 := 6) rfl rfl rfl ?_
  refine fs_newq (pc2 := 9) rfl rfl rfl (by decide) (Nat.le_of_ble_eq_true rfl) (by rw [ec]; decide) (by rw [ec]; decide) ?_
  refine fs_putr (pc2 := 12) rfl rfl rfl (by assumption) (Nat.le_of_ble_eq_true rfl) True.intro ?_
  refine fs_iconst (pc2 := 13) rfl rfl rfl ?_
  refine fs_istore_n (pc2 := 14) rfl rfl rfl (Nat.le_of_ble_eq_true rfl) ?_
  refine e_Link_init_loop hA ha (sh0 := sh) (V0 := V) h0 k38 2 0 (by omega) _ _ _ _ _ (fun _ => none) rfl rfl rfl (va_up_self _ _ _) ?_ (fun j hj => by omega) (fun j hj => by omega) ?_ (fun a ha => ⟨?_, ?_⟩)
  · rw [va_up_ne _ _ (by omega), va_up_self, ec]
  · rw [va_up_ne _ _ (by omega), hv]
  · rw [va_up_ne _ _ (by omega), va_up_ne _ _ (by omega)]
  · rw [va_up_ne _ _ (by omega)]
end INIT3
