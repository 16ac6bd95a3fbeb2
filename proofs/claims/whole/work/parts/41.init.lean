theorem nf_0 : ev_nf 0 = 3 := rfl
theorem nf_1 : ev_nf 1 = 15 := rfl
theorem nf_2 : ev_nf 2 = 14 := rfl
theorem nf_3 : ev_nf 3 = 3 := rfl
theorem nf_4 : ev_nf 4 = 2 := rfl
theorem nf_5 : ev_nf 5 = 3 := rfl
theorem nf_6 : ev_nf 6 = 4 := rfl
theorem nf_7 : ev_nf 7 = 3 := rfl
section INIT
variable {cy : Nat → ClassId} {z0 : Nat} {ext : Nat → Nat → List Value → ev_H → Nat → ev_P → Prop} {d : Nat} {sh : fl_S} {V : fl_V} {n : Nat}
set_option maxRecDepth 100000 in
set_option maxHeartbeats 4000000 in
theorem e_Packet_init {p : Nat} (hs : sh p = some (.inr (3, [some none, none, none]))) (hv : V p = fun _ => 0) (hn : n = p + 1) : fl_M cy z0 ext (d + 2) m_X2_init [.ref (z0 + p)] sh V n (fun v sh' V' n' => v = none ∧ n' = p + 3 ∧ Pk sh' V' p (false, false, []) ∧ ∀ a, a < p → sh' a = sh a ∧ V' a = V a) := by
  subst hn
  have hs1 : va_up sh (p + 1) (some (.inr (4, [some none, none]))) p = some (.inr (3, [some none, none, none])) := by rw [va_up_ne _ _ (by omega)]; exact hs
  refine fs_body rfl rfl (fun Ret hP => ?_)
  refine fs_aload_n (pc2 := 1) rfl rfl rfl rfl ?_
  refine fs_objinit (pc2 := 4) rfl rfl rfl rfl (Nat.le_of_ble_eq_true rfl) ?_
  refine fs_aload_n (pc2 := 5) rfl rfl rfl rfl ?_
  refine fs_new (slots := [some none, none]) (pc2 := 8) rfl rfl rfl (Nat.le_of_ble_eq_true rfl) (Nat.le_of_ble_eq_true rfl) rfl ?_
  first | refine fs_dup_r (pc2 := 9) rfl rfl rfl ?_ | refine fs_dup_i (pc2 := 9) rfl rfl rfl ?_
  refine fs_bipush (pc2 := 11) rfl rfl rfl ?_
  refine fs_callc (pc2 := 14) rfl rfl rfl rfl rfl ⟨rfl, rfl⟩ (Nat.le_of_ble_eq_true rfl) (Nat.le_of_ble_eq_true rfl) (Nat.le_of_ble_eq_true rfl) trivial (e_Row_init (r := p + 1) (room := 27) (by decide) (va_up_self _ _ _) (by rw [va_up_self]) rfl) (fun v9 sh9 V9 n9 hp9 => ?_)
  obtain ⟨ea9, eb9, hr, hs9, hv9⟩ := hp9
  cases ea9
  obtain rfl := eb9.symm
  have s0 : sh9 p = some (.inr (3, [some none, none, none])) := by rw [hs9 p (by omega) (by omega)]; exact hs1
  have v0 : V9 p = fun _ => 0 := by rw [hv9 p (by omega), va_up_ne _ _ (by omega), hv]
  refine fs_putr (pc2 := 17) rfl rfl rfl (by assumption) (Nat.le_of_ble_eq_true rfl) True.intro ?_
  refine fs_ret rfl rfl ?_
  refine hP _ _ _ _ ⟨rfl, rfl, ⟨?_, by rw [v0]; rfl, by rw [v0]; rfl, hr.shape (va_up_ne _ _ (by omega)) (va_up_ne _ _ (by omega))⟩, fun a ha => ⟨?_, ?_⟩⟩
  · rw [va_up_self]; rfl
  · rw [va_up_ne _ _ (by omega), hs9 a (by omega) (by omega), va_up_ne _ _ (by omega)]
  · rw [hv9 a (by omega), va_up_ne _ _ (by omega)]
set_option maxRecDepth 100000 in
set_option maxHeartbeats 4000000 in
theorem e_Way_init_loop {w : Nat} {sh0 : fl_S} {V0 : fl_V} {Ret : ev_P} (hP : ∀ (sh' : fl_S) (V' : fl_V), Way sh' V' w 0 [] → (∀ a, a < w → sh' a = sh0 a ∧ V' a = V0 a) → Ret none (fl_f cy z0 sh' V') (z0 + (w + 98))) : ∀ (k i : Nat), i + k = 32 → ∀ (sh : fl_S) (V : fl_V) (n cc ss : Nat) (g : Nat → Option Nat), n = w + 2 + 3 * i → cc = 1 + 3 * i → ss = 32 + 133 * i → sh w = some (.inr (6, [some (some (w + 1)), none, none, none])) → sh (w + 1) = some (.inl (6, 32, some (.inl g))) → (∀ j, j < i → g j = some (w + 2 + 3 * j)) → (∀ j, j < i → Pk sh V (w + 2 + 3 * j) (false, false, [])) → V w = (fun _ => 0) → (∀ a, a < w → sh a = sh0 a ∧ V a = V0 a) → fl_R cy z0 (ev_M cy ext (d + 2)) 5 97 4288 2 none kc_X5_init Ret 15 [(0, .ref (z0 + w)), (1, .int (nI i))] [] sh V n cc ss := by
  intro k
  induction k with
  | zero =>
    intro i hik sh V n cc ss g hn hcc hss q1 q2 q3 q4 q5 q6
    have hi : i = 32 := by omega
    subst hi
    subst hn
    refine fs_iload_n (pc2 := 16) rfl rfl rfl rfl ?_
    refine fs_bipush (pc2 := 18) rfl rfl rfl ?_
    refine fs_icmp_ge (pc2 := 21) rfl rfl rfl (fun h18 => ?_) (fun h18 => ?_)
    · refine fs_ret rfl rfl ?_
      refine hP _ _ ⟨⟨q1, g, q2, q3⟩, by omega, by simp, by rw [q5]; rfl, by rw [q5]; rfl, by rw [q5]; rfl, fun j hj => ⟨_, q4 j hj⟩, fun i y hi => by simp at hi⟩ q6
    · exact absurd h18 (by decide)
  | succ k ih =>
    intro i hik sh V n cc ss g hn hcc hss q1 q2 q3 q4 q5 q6
    have i1 : vp_in (nI i) 32 := vp_in_nI (by omega) (by decide)
    have ei : (nI i).toNatClampNeg = i := nI_clamp (by omega)
    refine fs_iload_n (pc2 := 16) rfl rfl rfl rfl ?_
    refine fs_bipush (pc2 := 18) rfl rfl rfl ?_
    refine fs_icmp_ge (pc2 := 21) rfl rfl rfl (fun h18 => ?_) (fun h18 => ?_)
    · exact absurd (nI_lt (a := i) (b := 32) (by omega) (by decide)) h18
    · refine fs_aload_n (pc2 := 22) rfl rfl rfl rfl ?_
      refine fs_getr (pc2 := 25) rfl rfl rfl (by assumption) rfl ?_
      refine fs_iload_n (pc2 := 26) rfl rfl rfl rfl ?_
      refine fs_new (slots := [some none, none, none]) (pc2 := 29) rfl rfl rfl (by first | omega | (dsimp only; omega) | (simp only [nf_0, nf_1, nf_2, nf_3, nf_4, nf_5, nf_6, nf_7]; omega)) (by show _ + 3 ≤ _; first | omega | (dsimp only; omega)) rfl ?_
      first | refine fs_dup_r (pc2 := 30) rfl rfl rfl ?_ | refine fs_dup_i (pc2 := 30) rfl rfl rfl ?_
      refine fs_callc (pc2 := 33) rfl rfl rfl rfl rfl ⟨rfl, rfl⟩ (Nat.le_of_ble_eq_true rfl) (by first | omega | (dsimp only; omega) | (simp only [nf_0, nf_1, nf_2, nf_3, nf_4, nf_5, nf_6, nf_7]; omega)) (by first | omega | (dsimp only; omega) | (simp only [nf_0, nf_1, nf_2, nf_3, nf_4, nf_5, nf_6, nf_7]; omega)) trivial (e_Packet_init (p := n) (va_up_self _ _ _) (va_up_self _ _ _) rfl) (fun v9 sh9 V9 n9 hp9 => ?_)
      obtain ⟨ea9, eb9, pk, fr⟩ := hp9
      cases ea9
      obtain rfl := eb9.symm
      have s0 : sh9 w = some (.inr (6, [some (some (w + 1)), none, none, none])) := by rw [(fr w (by omega)).1, va_up_ne _ _ (by omega)]; exact q1
      have s1 : sh9 (w + 1) = some (.inl (6, 32, some (.inl g))) := by rw [(fr _ (by omega)).1, va_up_ne _ _ (by omega)]; exact q2
      have pk0 := pk.1
      refine fs_aast (ci := 0) (pc2 := 34) rfl rfl rfl (by assumption) (by assumption) i1 ?_
      refine fs_iinc (pc2 := 37) rfl rfl rfl (Nat.le_of_ble_eq_true rfl) rfl ?_
      refine fs_goto rfl rfl ?_
      rw [nI_1 i, ei]
      refine ih (i + 1) (by omega) _ _ _ _ _ (va_up g i (some n)) (by omega) (by first | omega | (dsimp only; omega)) (by show ss + 3 + 130 = _; omega) ?_ ?_ ?_ ?_ ?_ ?_
      · rw [va_up_ne _ _ (by omega)]; exact s0
      · exact va_up_self _ _ _
      · intro j hj
        by_cases hji : j = i
        · rw [hji, va_up_self, hn]
        · rw [va_up_ne _ _ hji]; exact q3 j (by omega)
      · intro j hj
        by_cases hji : j = i
        · rw [hji, ← hn]; exact pk.shape (va_up_ne _ _ (by omega)) (va_up_ne _ _ (by omega)) (va_up_ne _ _ (by omega))
        · have f0 : ∀ a, w + 2 ≤ a → a < n → va_up sh9 (w + 1) (some (.inl (6, 32, some (.inl (va_up g i (some n)))))) a = sh a ∧ V9 a = V a := fun a a1 a2 => ⟨by rw [va_up_ne _ _ (by omega), (fr a a2).1, va_up_ne _ _ (by omega)], by rw [(fr a a2).2, va_up_ne _ _ (by omega)]⟩
          exact ((q4 j (by omega)).shape (f0 _ (by omega) (by omega)).1 (f0 _ (by omega) (by omega)).1 (f0 _ (by omega) (by omega)).1).kept (f0 _ (by omega) (by omega)).2 (f0 _ (by omega) (by omega)).2 (f0 _ (by omega) (by omega)).2
      · rw [(fr w (by omega)).2, va_up_ne _ _ (by omega)]; exact q5
      · intro a ha
        rw [va_up_ne _ _ (by omega), (fr a (by omega)).1, (fr a (by omega)).2, va_up_ne _ _ (by omega), va_up_ne _ _ (by omega)]
        exact q6 a ha
set_option maxRecDepth 100000 in
set_option maxHeartbeats 4000000 in
theorem e_Way_init {w : Nat} (hs : sh w = some (.inr (6, [some none, none, none, none]))) (hv : V w = fun _ => 0) (hn : n = w + 1) : fl_M cy z0 ext (d + 3) m_X5_init [.ref (z0 + w)] sh V n (fun v sh' V' n' => v = none ∧ n' = w + 98 ∧ Way sh' V' w 0 [] ∧ ∀ a, a < w → sh' a = sh a ∧ V' a = V a) := by
  subst hn
  have ec : (32 : Int32).toNatClampNeg = 32 := by decide
  have hs1 : va_up sh (w + 1) (some (.inl (6, (32 : Int32).toNatClampNeg, some (.inl fun _ => none)))) w = some (.inr (6, [some none, none, none, none])) := by rw [va_up_ne _ _ (by omega)]; exact hs
  refine fs_body rfl rfl (fun Ret hP => ?_)
  refine fs_aload_n (pc2 := 1) rfl rfl rfl rfl ?_
  refine fs_objinit (pc2 := 4) rfl rfl rfl rfl (Nat.le_of_ble_eq_true rfl) ?_
  refine fs_aload_n (pc2 := 5) rfl rfl rfl rfl ?_
  refine fs_bipush (pc2 := 7) rfl rfl rfl ?_
  refine fs_newq (pc2 := 10) rfl rfl rfl (by decide) (Nat.le_of_ble_eq_true rfl) (by rw [ec]; decide) (by rw [ec]; decide) ?_
  refine fs_putr (pc2 := 13) rfl rfl rfl (by assumption) (Nat.le_of_ble_eq_true rfl) True.intro ?_
  refine fs_iconst (pc2 := 14) rfl rfl rfl ?_
  refine fs_istore_n (pc2 := 15) rfl rfl rfl (Nat.le_of_ble_eq_true rfl) ?_
  refine e_Way_init_loop (sh0 := sh) (V0 := V) (fun sh' V' h1 h2 => hP _ _ _ _ ⟨rfl, rfl, h1, h2⟩) 32 0 (by omega) _ _ _ _ _ (fun _ => none) rfl rfl rfl (va_up_self _ _ _) ?_ (fun j hj => by omega) (fun j hj => by omega) ?_ (fun a ha => ⟨?_, ?_⟩)
  · rw [va_up_ne _ _ (by omega), va_up_self, ec]
  · rw [va_up_ne _ _ (by omega), hv]
  · rw [va_up_ne _ _ (by omega), va_up_ne _ _ (by omega)]
  · rw [va_up_ne _ _ (by omega)]
set_option maxRecDepth 100000 in
set_option maxHeartbeats 4000000 in
theorem e_Texts_init_loop {t most room : Nat} {sh0 : fl_S} {V0 : fl_V} {Ret : ev_P} (hmost : 1 ≤ most) (hmost4 : most ≤ 4) (hroom : room ≤ 128) (hP : ∀ (sh' : fl_S) (V' : fl_V), Texts sh' V' t most room 0 [] → (∀ a, a < t → sh' a = sh0 a ∧ V' a = V0 a) → Ret none (fl_f cy z0 sh' V') (z0 + (t + 2 + 2 * most))) : ∀ (k i : Nat), i + k = most → ∀ (sh : fl_S) (V : fl_V) (n cc ss : Nat) (g : Nat → Option Nat), n = t + 2 + 2 * i → cc = 1 + 2 * i → ss = most + 130 * i → sh t = some (.inr (5, [some (some (t + 1)), none, none])) → sh (t + 1) = some (.inl (7, most, some (.inl g))) → (∀ j, j < i → g j = some (t + 2 + 2 * j)) → (∀ j, j < i → Row sh V (t + 2 + 2 * j) room []) → V t = (fun _ => 0) → (∀ a, a < t → sh a = sh0 a ∧ V a = V0 a) → fl_R cy z0 (ev_M cy ext (d + 1)) 4 9 524 4 none kc_X4_init Ret 14 [(0, .ref (z0 + t)), (1, .int (nI most)), (2, .int (nI room)), (3, .int (nI i))] [] sh V n cc ss := by
  intro k
  induction k with
  | zero =>
    intro i hik sh V n cc ss g hn hcc hss q1 q2 q3 q4 q5 q6
    have hi : i = most := by omega
    subst hi
    subst hn
    refine fs_iload_n (pc2 := 15) rfl rfl rfl rfl ?_
    refine fs_iload_n (pc2 := 16) rfl rfl rfl rfl ?_
    refine fs_icmp_ge (pc2 := 19) rfl rfl rfl (fun h16 => ?_) (fun h16 => ?_)
    · refine fs_ret rfl rfl ?_
      refine hP _ _ ⟨⟨q1, g, q2, q3⟩, by omega, by omega, by simp, by rw [q5]; rfl, by rw [q5]; rfl, fun j hj => ⟨_, q4 j hj⟩, fun i y hi => by simp at hi⟩ q6
    · exact absurd h16 (nI_nlt (Nat.le_refl _) (by omega))
  | succ k ih =>
    intro i hik sh V n cc ss g hn hcc hss q1 q2 q3 q4 q5 q6
    have i1 : vp_in (nI i) most := vp_in_nI (by omega) (by omega)
    have ei : (nI i).toNatClampNeg = i := nI_clamp (by omega)
    refine fs_iload_n (pc2 := 15) rfl rfl rfl rfl ?_
    refine fs_iload_n (pc2 := 16) rfl rfl rfl rfl ?_
    refine fs_icmp_ge (pc2 := 19) rfl rfl rfl (fun h16 => ?_) (fun h16 => ?_)
    · exact absurd (nI_lt (by omega) (by omega)) h16
    · refine fs_aload_n (pc2 := 20) rfl rfl rfl rfl ?_
      refine fs_getr (pc2 := 23) rfl rfl rfl (by assumption) rfl ?_
      refine fs_iload_n (pc2 := 24) rfl rfl rfl rfl ?_
      refine fs_new (slots := [some none, none]) (pc2 := 27) rfl rfl rfl (by first | omega | (dsimp only; omega) | (simp only [nf_0, nf_1, nf_2, nf_3, nf_4, nf_5, nf_6, nf_7]; omega)) (by show _ + 2 ≤ _; first | omega | (dsimp only; omega)) rfl ?_
      first | refine fs_dup_r (pc2 := 28) rfl rfl rfl ?_ | refine fs_dup_i (pc2 := 28) rfl rfl rfl ?_
      refine fs_iload_n (pc2 := 29) rfl rfl rfl rfl ?_
      refine fs_callc (pc2 := 32) rfl rfl rfl rfl rfl ⟨rfl, rfl⟩ (Nat.le_of_ble_eq_true rfl) (by first | omega | (dsimp only; omega) | (simp only [nf_0, nf_1, nf_2, nf_3, nf_4, nf_5, nf_6, nf_7]; omega)) (by first | omega | (dsimp only; omega) | (simp only [nf_0, nf_1, nf_2, nf_3, nf_4, nf_5, nf_6, nf_7]; omega)) trivial (e_Row_init (r := n) (room := room) hroom (va_up_self _ _ _) (by rw [va_up_self]) rfl) (fun v9 sh9 V9 n9 hp9 => ?_)
      obtain ⟨ea9, eb9, pk, hs9, hv9⟩ := hp9
      cases ea9
      obtain rfl := eb9.symm
      have fr : ∀ a, a < n → sh9 a = sh a ∧ V9 a = V a := fun a ha => ⟨by rw [hs9 a (by omega) (by omega), va_up_ne _ _ (by omega)], by rw [hv9 a (by omega), va_up_ne _ _ (by omega)]⟩
      have s0 : sh9 t = some (.inr (5, [some (some (t + 1)), none, none])) := by rw [(fr t (by omega)).1]; exact q1
      have s1 : sh9 (t + 1) = some (.inl (7, most, some (.inl g))) := by rw [(fr _ (by omega)).1]; exact q2
      have pk0 := pk.1.1
      refine fs_aast (ci := 0) (pc2 := 33) rfl rfl rfl (by assumption) (by assumption) i1 ?_
      refine fs_iinc (pc2 := 36) rfl rfl rfl (Nat.le_of_ble_eq_true rfl) rfl ?_
      refine fs_goto rfl rfl ?_
      rw [nI_1 i, ei]
      refine ih (i + 1) (by omega) _ _ _ _ _ (va_up g i (some n)) (by omega) (by first | omega | (dsimp only; omega)) (by show ss + 2 + 128 = _; omega) ?_ ?_ ?_ ?_ ?_ ?_
      · rw [va_up_ne _ _ (by omega)]; exact s0
      · exact va_up_self _ _ _
      · intro j hj
        by_cases hji : j = i
        · rw [hji, va_up_self, hn]
        · rw [va_up_ne _ _ hji]; exact q3 j (by omega)
      · intro j hj
        by_cases hji : j = i
        · rw [hji, ← hn]; exact pk.shape (va_up_ne _ _ (by omega)) (va_up_ne _ _ (by omega))
        · have f0 : ∀ a, t + 2 ≤ a → a < n → va_up sh9 (t + 1) (some (.inl (7, most, some (.inl (va_up g i (some n)))))) a = sh a ∧ V9 a = V a := fun a a1 a2 => ⟨by rw [va_up_ne _ _ (by omega), (fr a a2).1], (fr a a2).2⟩
          exact ((q4 j (by omega)).shape (f0 _ (by omega) (by omega)).1 (f0 _ (by omega) (by omega)).1).kept (f0 _ (by omega) (by omega)).2 (f0 _ (by omega) (by omega)).2
      · rw [(fr t (by omega)).2]; exact q5
      · intro a ha
        rw [va_up_ne _ _ (by omega), (fr a (by omega)).1, (fr a (by omega)).2]
        exact q6 a ha
set_option maxRecDepth 100000 in
set_option maxHeartbeats 4000000 in
theorem e_Texts_init {t : Nat} {most room : Nat} (hmost : 1 ≤ most) (hmost4 : most ≤ 4) (hroom : room ≤ 128) (hs : sh t = some (.inr (5, [some none, none, none]))) (hv : V t = fun _ => 0) (hn : n = t + 1) : fl_M cy z0 ext (d + 2) m_X4_init [.ref (z0 + t), .int (nI most), .int (nI room)] sh V n (fun v sh' V' n' => v = none ∧ n' = t + (2 + 2 * most) ∧ Texts sh' V' t most room 0 [] ∧ ∀ a, a < t → sh' a = sh a ∧ V' a = V a) := by
  subst hn
  have ec : (nI most).toNatClampNeg = most := nI_clamp (by omega)
  have hs1 : va_up sh (t + 1) (some (.inl (7, (nI most).toNatClampNeg, some (.inl fun _ => none)))) t = some (.inr (5, [some none, none, none])) := by rw [va_up_ne _ _ (by omega)]; exact hs
  refine fs_body rfl rfl (fun Ret hP => ?_)
  refine fs_aload_n (pc2 := 1) rfl rfl rfl rfl ?_
  refine fs_objinit (pc2 := 4) rfl rfl rfl rfl (Nat.le_of_ble_eq_true rfl) ?_
  refine fs_aload_n (pc2 := 5) rfl rfl rfl rfl ?_
  refine fs_iload_n (pc2 := 6) rfl rfl rfl rfl ?_
  refine fs_newq (pc2 := 9) rfl rfl rfl (nI_pos (by omega)) (Nat.le_of_ble_eq_true rfl) (by rw [ec]; omega) (by rw [ec]; omega) ?_
  refine fs_putr (pc2 := 12) rfl rfl rfl (by assumption) (Nat.le_of_ble_eq_true rfl) True.intro ?_
  refine fs_iconst (pc2 := 13) rfl rfl rfl ?_
  refine fs_istore_n (pc2 := 14) rfl rfl rfl (Nat.le_of_ble_eq_true rfl) ?_
  refine e_Texts_init_loop (sh0 := sh) (V0 := V) hmost hmost4 hroom (fun sh' V' h1 h2 => hP _ _ _ _ ⟨rfl, by omega, h1, h2⟩) most 0 (by omega) _ _ _ _ _ (fun _ => none) rfl (by omega) (by rw [ec]; omega) (va_up_self _ _ _) ?_ (fun j hj => by omega) (fun j hj => by omega) ?_ (fun a ha => ⟨?_, ?_⟩)
  · rw [va_up_ne _ _ (by omega), va_up_self, ec]
  · rw [va_up_ne _ _ (by omega), hv]
  · rw [va_up_ne _ _ (by omega), va_up_ne _ _ (by omega)]
  · rw [va_up_ne _ _ (by omega)]
end INIT
