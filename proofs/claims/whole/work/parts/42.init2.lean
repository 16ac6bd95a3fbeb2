def ch0 (nb : Nat) : Ch := (va_up (fun _ => 0) 0 nb, none, [], [], [])
def ho0 : Ho := (fun _ => 0, fun j => ch0 (64 + j), fun _ _ => 0, [], [], [], [])
/-- what is told of the constructor of ArrayList -/
def AlInit (cy : Nat → ClassId) (z0 a0 : Nat) (ext : Nat → Nat → List Value → ev_H → Nat → ev_P → Prop) : Prop := ∀ (d : Nat) (sh : fl_S) (V : fl_V) (n w : Nat), sh w = some (.inr (0, [none, some none, none])) → eAr a0 0 (fun _ => none) sh → w ≠ a0 →
  fl_M cy z0 ext (d + 9) m_Jx4a65c_init_da8c8 [.ref (z0 + w)] sh V n (fun v sh' V' n' => v = none ∧ n' = n ∧ eAl w a0 sh' ∧ V' w 2 = V w 2 ∧ (∀ a, a ≠ w → sh' a = sh a) ∧ ∀ a, a ≠ w → V' a = V a)
section INIT2
variable {cy : Nat → ClassId} {z0 : Nat} {ext : Nat → Nat → List Value → ev_H → Nat → ev_P → Prop} {d : Nat} {sh : fl_S} {V : fl_V} {n : Nat}
set_option maxRecDepth 100000 in
set_option maxHeartbeats 4000000 in
theorem e_Channel_init {c : Nat} {nb : Nat} (hnb : nb < 65536) (hs : sh c = some (.inr (1, [none, none, none, none, none, none, none, none, none, none, some none, none, some none, some none, none]))) (hv : V c = fun _ => 0) (hn : n = c + 1) : fl_M cy z0 ext (d + 3) m_X0_init [.ref (z0 + c), .int (nI nb)] sh V n (fun v sh' V' n' => v = none ∧ n' = c + 19 ∧ Chan sh' V' c (ch0 nb) ∧ ∀ a, a < c → sh' a = sh a ∧ V' a = V a) := by
  subst hn
  refine fs_body rfl rfl (fun Ret hP => ?_)
  refine fs_aload_n (pc2 := 1) rfl rfl rfl rfl ?_
  refine fs_objinit (pc2 := 4) rfl rfl rfl rfl (Nat.le_of_ble_eq_true rfl) ?_
  refine fs_aload_n (pc2 := 5) rfl rfl rfl rfl ?_
  refine fs_iload_n (pc2 := 6) rfl rfl rfl rfl ?_
  refine fs_puti (pc2 := 9) rfl rfl rfl (by assumption) rfl True.intro ?_
  refine fs_aload_n (pc2 := 10) rfl rfl rfl rfl ?_
  refine fs_new (slots := [some none, none, none]) (pc2 := 13) rfl rfl rfl (Nat.le_of_ble_eq_true rfl) (Nat.le_of_ble_eq_true rfl) rfl ?_
  first | refine fs_dup_r (pc2 := 14) rfl rfl rfl ?_ | refine fs_dup_i (pc2 := 14) rfl rfl rfl ?_
  refine fs_iconst (pc2 := 15) rfl rfl rfl ?_
  refine fs_bipush (pc2 := 17) rfl rfl rfl ?_
  refine fs_callc (pc2 := 20) rfl rfl rfl rfl rfl ⟨rfl, rfl⟩ (Nat.le_of_ble_eq_true rfl) (Nat.le_of_ble_eq_true rfl) (Nat.le_of_ble_eq_true rfl) trivial (e_Texts_init (t := c + 1) (most := 2) (room := 122) (by decide) (by decide) (by decide) (va_up_self _ _ _) (va_up_self _ _ _) rfl) (fun v9 sh9 V9 n9 hp9 => ?_)
  obtain ⟨ea9, eb9, T1, fr1⟩ := hp9
  cases ea9
  obtain rfl := eb9.symm
  have s1 : sh9 c = some (.inr (1, [none, none, none, none, none, none, none, none, none, none, some none, none, some none, some none, none])) := by rw [(fr1 c (by omega)).1, va_up_ne _ _ (by omega)]; exact hs
  have v1 : V9 c = up2 V c 0 (nI nb) c := by rw [(fr1 c (by omega)).2, va_up_ne _ _ (by omega)]
  refine fs_putr (pc2 := 23) rfl rfl rfl (by assumption) (Nat.le_of_ble_eq_true rfl) True.intro ?_
  refine fs_aload_n (pc2 := 24) rfl rfl rfl rfl ?_
  refine fs_new (slots := [some none, none, none]) (pc2 := 27) rfl rfl rfl (Nat.le_of_ble_eq_true rfl) (Nat.le_of_ble_eq_true rfl) rfl ?_
  first | refine fs_dup_r (pc2 := 28) rfl rfl rfl ?_ | refine fs_dup_i (pc2 := 28) rfl rfl rfl ?_
  refine fs_iconst (pc2 := 29) rfl rfl rfl ?_
  refine fs_bipush (pc2 := 31) rfl rfl rfl ?_
  refine fs_callc (pc2 := 34) rfl rfl rfl rfl rfl ⟨rfl, rfl⟩ (Nat.le_of_ble_eq_true rfl) (Nat.le_of_ble_eq_true rfl) (Nat.le_of_ble_eq_true rfl) trivial (e_Texts_init (t := c + 7) (most := 4) (room := 100) (by decide) (by decide) (by decide) (va_up_self _ _ _) (va_up_self _ _ _) rfl) (fun v9 sh9 V9 n9 hp9 => ?_)
  obtain ⟨ea9, eb9, T2, fr2⟩ := hp9
  cases ea9
  obtain rfl := eb9.symm
  have s2 : sh9 c = some (.inr (1, [none, none, none, none, none, none, none, none, none, none, some (some (c + 1)), none, some none, some none, none])) := by rw [(fr2 c (by omega)).1, va_up_ne _ _ (by omega), va_up_self]; rfl
  have v2 : V9 c = up2 V c 0 (nI nb) c := by rw [(fr2 c (by omega)).2, va_up_ne _ _ (by omega), v1]
  have T1b := (T1.shape (sh' := sh9) (fun a a1 a2 => by rw [(fr2 a (by omega)).1, va_up_ne _ _ (by omega), va_up_ne _ _ (by omega)])).kept (V' := V9) (fun a a1 a2 => by rw [(fr2 a (by omega)).2, va_up_ne _ _ (by omega)])
  refine fs_putr (pc2 := 37) rfl rfl rfl (by assumption) (Nat.le_of_ble_eq_true rfl) True.intro ?_
  refine fs_aload_n (pc2 := 38) rfl rfl rfl rfl ?_
  refine fs_new (slots := [some none, none]) (pc2 := 41) rfl rfl rfl (Nat.le_of_ble_eq_true rfl) (Nat.le_of_ble_eq_true rfl) rfl ?_
  first | refine fs_dup_r (pc2 := 42) rfl rfl rfl ?_ | refine fs_dup_i (pc2 := 42) rfl rfl rfl ?_
  refine fs_bipush (pc2 := 44) rfl rfl rfl ?_
  refine fs_callc (pc2 := 47) rfl rfl rfl rfl rfl ⟨rfl, rfl⟩ (Nat.le_of_ble_eq_true rfl) (Nat.le_of_ble_eq_true rfl) (Nat.le_of_ble_eq_true rfl) trivial (e_Row_init (r := c + 17) (room := 100) (by decide) (va_up_self _ _ _) (by rw [va_up_self]) rfl) (fun v9 sh9 V9 n9 hp9 => ?_)
  obtain ⟨ea9, eb9, R3, hs3, hv3⟩ := hp9
  cases ea9
  obtain rfl := eb9.symm
  have fr3 : ∀ a, a < c + 17 → a ≠ c → sh9 a = _ ∧ V9 a = _ := fun a ha hac => ⟨(hs3 a (by omega) (by omega)).trans ((va_up_ne _ _ (by omega)).trans (va_up_ne _ _ hac)), (hv3 a (by omega)).trans (va_up_ne _ _ (by omega))⟩
  have s3 : sh9 c = some (.inr (1, [none, none, none, none, none, none, none, none, none, none, some (some (c + 1)), none, some (some (c + 7)), some none, none])) := by rw [hs3 c (by omega) (by omega), va_up_ne _ _ (by omega), va_up_self]; rfl
  have v3 : V9 c = up2 V c 0 (nI nb) c := by rw [hv3 c (by omega), va_up_ne _ _ (by omega), v2]
  have T1c := (T1b.shape (sh' := va_up sh9 c (some (.inr (1, [none, none, none, none, none, none, none, none, none, none, some (some (c + 1)), none, some (some (c + 7)), some (some (c + 17)), none])))) (fun a a1 a2 => by rw [va_up_ne _ _ (by omega), (fr3 a (by omega) (by omega)).1])).kept (V' := up2 V9 c 14 (-1)) (fun a a1 a2 => by rw [up2_o (by omega), (fr3 a (by omega) (by omega)).2])
  have T2c := (T2.shape (sh' := va_up sh9 c (some (.inr (1, [none, none, none, none, none, none, none, none, none, none, some (some (c + 1)), none, some (some (c + 7)), some (some (c + 17)), none])))) (fun a a1 a2 => by rw [va_up_ne _ _ (by omega), (fr3 a (by omega) (by omega)).1])).kept (V' := up2 V9 c 14 (-1)) (fun a a1 a2 => by rw [up2_o (by omega), (fr3 a (by omega) (by omega)).2])
  have s4 : va_up sh9 c (some (.inr (1, [none, none, none, none, none, none, none, none, none, none, some (some (c + 1)), none, some (some (c + 7)), some (some (c + 17)), none]))) c = some (.inr (1, [none, none, none, none, none, none, none, none, none, none, some (some (c + 1)), none, some (some (c + 7)), some (some (c + 17)), none])) := va_up_self _ _ _
  have R3c := (R3.shape (sh' := va_up sh9 c (some (.inr (1, [none, none, none, none, none, none, none, none, none, none, some (some (c + 1)), none, some (some (c + 7)), some (some (c + 17)), none])))) (va_up_ne _ _ (by omega)) (va_up_ne _ _ (by omega))).kept (V' := up2 V9 c 14 (-1)) (up2_o (by omega)) (up2_o (by omega))
  refine fs_putr (pc2 := 50) rfl rfl rfl (by assumption) (Nat.le_of_ble_eq_true rfl) True.intro ?_
  refine fs_aload_n (pc2 := 51) rfl rfl rfl rfl ?_
  refine fs_iconst (pc2 := 52) rfl rfl rfl ?_
  refine fs_puti (pc2 := 55) rfl rfl rfl (by assumption) rfl True.intro ?_
  refine fs_ret rfl rfl ?_
  refine hP _ _ _ _ ⟨rfl, rfl, ⟨va_up_self _ _ _, fun j => ?_, fun k hk => (by cases hk), fun j hj => ?_, by simp [up2, ch0, dueI], ⟨0, T1c⟩, ⟨0, T2c⟩, R3c⟩, fun a ha => ⟨?_, ?_⟩⟩
  · show va_up (fun _ => 0) 0 nb j < 65536
    unfold va_up
    split
    · exact hnb
    · exact Nat.zero_lt_succ _
  · simp only [up2, if_true]
    rw [if_neg (by omega), v3]
    by_cases j0 : j = 0
    · subst j0; simp [up2, ch0, va_up]
    · simp [up2, ch0, va_up, j0, hv, nI_0]
  · rw [va_up_ne _ _ (by omega), (fr3 a (by omega) (by omega)).1, (fr2 a (by omega)).1, va_up_ne _ _ (by omega), va_up_ne _ _ (by omega), (fr1 a (by omega)).1, va_up_ne _ _ (by omega)]
  · rw [up2_o (by omega), (fr3 a (by omega) (by omega)).2, (fr2 a (by omega)).2, va_up_ne _ _ (by omega), (fr1 a (by omega)).2, va_up_ne _ _ (by omega), up2_o (by omega)]
def HostZ (sh : fl_S) (V : fl_V) (a0 hb : Nat) : Prop := isHo sh hb ∧ isHoC sh hb ∧ (∀ j, j < 4 → Chan sh V (hb + 2 + 19 * j) (ch0 (64 + j))) ∧ (∀ k, k < 3 → sh (hb + 78 + k) = some (.inl (1, 10, none)) ∧ V (hb + 78 + k) = fun _ => 0) ∧ Way sh V (hb + 81) 0 [] ∧ eAl (hb + 179) a0 sh ∧ V (hb + 179) 2 = 0 ∧ Row sh V (hb + 180) 128 [] ∧ Row sh V (hb + 182) 128 [] ∧ V hb = fun _ => 0
theorem HostZ.host {K a0 hb : Nat} (h : HostZ sh V a0 hb) (hK : hb + 184 ≤ K) (hn : K ≤ n) (ha : a0 < hb) (h0 : eAr a0 0 (fun _ => none) sh) : Host sh V n K a0 hb a0 [] ho0 := by
  obtain ⟨g1, g2, g3, g4, g5, g6, g7, g8, g9, g10⟩ := h
  exact ⟨⟨g1, g2, hK, hn, ha⟩, fun j hj => ⟨g3 j hj, by simp [ho0, ch0, va_up]⟩, fun k hk => ⟨(g4 k hk).1, fun i hi => ⟨by rw [(g4 k hk).2]; rfl, by simp [ho0]⟩⟩, ⟨0, g5⟩, ⟨g6, by omega, Or.inl rfl, h0, by rw [g7]; rfl, rfl, fun i r x hi => by simp at hi, 0, fun _ => none, h0, by simp [caps], Or.inl rfl, by simp [ho0], fun i r hi => by simp at hi⟩, g8, g9, fun j hj => by rw [g10]; rfl⟩
theorem HostZ.kept {sh' : fl_S} {V' : fl_V} {a0 hb : Nat} (h : HostZ sh V a0 hb) (hk : ∀ a, hb ≤ a → a < hb + 184 → sh' a = sh a ∧ V' a = V a) : HostZ sh' V' a0 hb := by
  obtain ⟨g1, ⟨g, g2, g2b⟩, g3, g4, g5, g6, g7, g8, g9, g10⟩ := h
  refine ⟨by unfold isHo; rw [(hk hb (by omega) (by omega)).1]; exact g1, ⟨g, by rw [(hk _ (by omega) (by omega)).1]; exact g2, g2b⟩, fun j hj => ((g3 j hj).shape (fun a _ _ => (hk a (by omega) (by omega)).1)).kept (fun a _ _ => (hk a (by omega) (by omega)).2), fun k hq => ⟨by rw [(hk _ (by omega) (by omega)).1]; exact (g4 k hq).1, by rw [(hk _ (by omega) (by omega)).2]; exact (g4 k hq).2⟩, (g5.shape (fun a _ _ => (hk a (by omega) (by omega)).1)).kept (fun a _ _ => (hk a (by omega) (by omega)).2), by unfold eAl; rw [(hk _ (by omega) (by omega)).1]; exact g6, by rw [(hk _ (by omega) (by omega)).2]; exact g7, (g8.shape (hk _ (by omega) (by omega)).1 (hk _ (by omega) (by omega)).1).kept (hk _ (by omega) (by omega)).2 (hk _ (by omega) (by omega)).2, (g9.shape (hk _ (by omega) (by omega)).1 (hk _ (by omega) (by omega)).1).kept (hk _ (by omega) (by omega)).2 (hk _ (by omega) (by omega)).2, by rw [(hk _ (by omega) (by omega)).2]; exact g10⟩
set_option maxRecDepth 100000 in
set_option maxHeartbeats 4000000 in
theorem e_Host_init_loop {hb : Nat} {sh0 : fl_S} {V0 : fl_V} {Ret : ev_P} (hP : ∀ (sh : fl_S) (V : fl_V) (g : Nat → Option Nat), sh hb = some (.inr (2, [some (some (hb + 1)), some none, some none, some none, some none, some none, some none, none, some none, none, none, none, none, none])) → sh (hb + 1) = some (.inl (4, 4, some (.inl g))) → (∀ j, j < 4 → g j = some (hb + 2 + 19 * j)) → (∀ j, j < 4 → Chan sh V (hb + 2 + 19 * j) (ch0 (64 + j))) → V hb = (fun _ => 0) → (∀ a, a < hb → sh a = sh0 a ∧ V a = V0 a) → fl_R cy z0 (ev_M cy ext (d + 9)) 1 199 9385 2 none kc_X1_init Ret 42 [(0, .ref (z0 + hb)), (1, .int (nI 4))] [] sh V (hb + 78) 93 4800) : ∀ (k i : Nat), i + k = 4 → ∀ (sh : fl_S) (V : fl_V) (n cc ss : Nat) (g : Nat → Option Nat), n = hb + 2 + 19 * i → cc = 1 + 23 * i → ss = 4 + 1199 * i → sh hb = some (.inr (2, [some (some (hb + 1)), some none, some none, some none, some none, some none, some none, none, some none, none, none, none, none, none])) → sh (hb + 1) = some (.inl (4, 4, some (.inl g))) → (∀ j, j < i → g j = some (hb + 2 + 19 * j)) → (∀ j, j < i → Chan sh V (hb + 2 + 19 * j) (ch0 (64 + j))) → V hb = (fun _ => 0) → (∀ a, a < hb → sh a = sh0 a ∧ V a = V0 a) → fl_R cy z0 (ev_M cy ext (d + 9)) 1 199 9385 2 none kc_X1_init Ret 14 [(0, .ref (z0 + hb)), (1, .int (nI i))] [] sh V n cc ss := by
  intro k
  induction k with
  | zero =>
    intro i hik sh V n cc ss g hn hcc hss q1 q2 q3 q4 q5 q6
    have hi : i = 4 := by omega
    subst hi
    subst hn
    subst hcc
    subst hss
    refine fs_iload_n (pc2 := 15) rfl rfl rfl rfl ?_
    refine fs_iconst (pc2 := 16) rfl rfl rfl ?_
    refine fs_icmp_ge (pc2 := 19) rfl rfl rfl (fun h16 => ?_) (fun h16 => ?_)
    · exact hP _ _ g q1 q2 q3 q4 q5 q6
    · exact absurd h16 (by decide)
  | succ k ih =>
    intro i hik sh V n cc ss g hn hcc hss q1 q2 q3 q4 q5 q6
    have i1 : vp_in (nI i) 4 := vp_in_nI (by omega) (by decide)
    have ei : (nI i).toNatClampNeg = i := nI_clamp (by omega)
    have e64 : (64 : Int32) + nI i = nI (64 + i) := nI_add 64 i
    refine fs_iload_n (pc2 := 15) rfl rfl rfl rfl ?_
    refine fs_iconst (pc2 := 16) rfl rfl rfl ?_
    refine fs_icmp_ge (pc2 := 19) rfl rfl rfl (fun h16 => ?_) (fun h16 => ?_)
    · exact absurd (nI_lt (a := i) (b := 4) (by omega) (by decide)) h16
    · refine fs_aload_n (pc2 := 20) rfl rfl rfl rfl ?_
      refine fs_getr (pc2 := 23) rfl rfl rfl (by assumption) rfl ?_
      refine fs_iload_n (pc2 := 24) rfl rfl rfl rfl ?_
      refine fs_new (slots := [none, none, none, none, none, none, none, none, none, none, some none, none, some none, some none, none]) (pc2 := 27) rfl rfl rfl (by first | omega | (dsimp only; omega) | (simp only [nf_0, nf_1, nf_2, nf_3, nf_4, nf_5, nf_6, nf_7]; omega)) (by show _ + 15 ≤ _; first | omega | (dsimp only; omega)) rfl ?_
      first | refine fs_dup_r (pc2 := 28) rfl rfl rfl ?_ | refine fs_dup_i (pc2 := 28) rfl rfl rfl ?_
      refine fs_bipush (pc2 := 30) rfl rfl rfl ?_
      refine fs_iload_n (pc2 := 31) rfl rfl rfl rfl ?_
      refine fs_iadd (pc2 := 32) rfl rfl rfl ?_
      refine fs_callc (pc2 := 35) rfl rfl rfl rfl rfl ⟨rfl, rfl⟩ (Nat.le_of_ble_eq_true rfl) (by first | omega | (dsimp only; omega) | (simp only [nf_0, nf_1, nf_2, nf_3, nf_4, nf_5, nf_6, nf_7]; omega)) (by first | omega | (dsimp only; omega) | (simp only [nf_0, nf_1, nf_2, nf_3, nf_4, nf_5, nf_6, nf_7]; omega)) trivial (by rw [e64]; exact e_Channel_init (c := n) (nb := 64 + i) (by omega) (va_up_self _ _ _) (va_up_self _ _ _) rfl) (fun v9 sh9 V9 n9 hp9 => ?_)
      obtain ⟨ea9, eb9, pk, fr⟩ := hp9
      cases ea9
      obtain rfl := eb9.symm
      have s0 : sh9 hb = some (.inr (2, [some (some (hb + 1)), some none, some none, some none, some none, some none, some none, none, some none, none, none, none, none, none])) := by rw [(fr hb (by omega)).1, va_up_ne _ _ (by omega)]; exact q1
      have s1 : sh9 (hb + 1) = some (.inl (4, 4, some (.inl g))) := by rw [(fr _ (by omega)).1, va_up_ne _ _ (by omega)]; exact q2
      have pk0 := pk.1
      unfold isChan at pk0
      refine fs_aast (ci := 0) (pc2 := 36) rfl rfl rfl (by assumption) (by assumption) i1 ?_
      refine fs_iinc (pc2 := 39) rfl rfl rfl (Nat.le_of_ble_eq_true rfl) rfl ?_
      refine fs_goto rfl rfl ?_
      rw [nI_1 i, ei]
      refine ih (i + 1) (by omega) _ _ _ _ _ (va_up g i (some n)) (by omega) (by first | omega | (dsimp only; omega)) (by show ss + 15 + 1184 = _; omega) ?_ ?_ ?_ ?_ ?_ ?_
      · rw [va_up_ne _ _ (by omega)]; exact s0
      · exact va_up_self _ _ _
      · intro j hj
        by_cases hji : j = i
        · rw [hji, va_up_self, hn]
        · rw [va_up_ne _ _ hji]; exact q3 j (by omega)
      · intro j hj
        by_cases hji : j = i
        · rw [hji, ← hn]; exact pk.shape (fun a _ _ => va_up_ne _ _ (by omega))
        · have f0 : ∀ a, hb + 2 ≤ a → a < n → va_up sh9 (hb + 1) (some (.inl (4, 4, some (.inl (va_up g i (some n)))))) a = sh a ∧ V9 a = V a := fun a a1 a2 => ⟨by rw [va_up_ne _ _ (by omega), (fr a a2).1, va_up_ne _ _ (by omega)], by rw [(fr a a2).2, va_up_ne _ _ (by omega)]⟩
          exact ((q4 j (by omega)).shape (fun a _ _ => (f0 a (by omega) (by omega)).1)).kept (fun a _ _ => (f0 a (by omega) (by omega)).2)
      · rw [(fr hb (by omega)).2, va_up_ne _ _ (by omega)]; exact q5
      · intro a ha
        rw [va_up_ne _ _ (by omega), (fr a (by omega)).1, (fr a (by omega)).2, va_up_ne _ _ (by omega), va_up_ne _ _ (by omega)]
        exact q6 a ha
set_option maxRecDepth 100000 in
set_option maxHeartbeats 4000000 in
theorem e_Host_init {hb : Nat} {a0 : Nat} (hA : AlInit cy z0 a0 ext) (ha : a0 < hb) (h0 : eAr a0 0 (fun _ => none) sh) (hs : sh hb = some (.inr (2, [some none, some none, some none, some none, some none, some none, some none, none, some none, none, none, none, none, none]))) (hv : V hb = fun _ => 0) (hn : n = hb + 1) : fl_M cy z0 ext (d + 10) m_X1_init [.ref (z0 + hb)] sh V n (fun v sh' V' n' => v = none ∧ n' = hb + 184 ∧ HostZ sh' V' a0 hb ∧ ∀ a, a < hb → sh' a = sh a ∧ V' a = V a) := by
  subst hn
  have ec : (4 : Int32).toNatClampNeg = 4 := by decide
  have ec10 : (10 : Int32).toNatClampNeg = 10 := by decide
  have hs1 : va_up sh (hb + 1) (some (.inl (4, (4 : Int32).toNatClampNeg, some (.inl fun _ => none)))) hb = some (.inr (2, [some none, some none, some none, some none, some none, some none, some none, none, some none, none, none, none, none, none])) := by rw [va_up_ne _ _ (by omega)]; exact hs
  refine fs_body rfl rfl (fun Ret hP => ?_)
  have k42 : ∀ (sh1 : fl_S) (V1 : fl_V) (g : Nat → Option Nat), sh1 hb = some (.inr (2, [some (some (hb + 1)), some none, some none, some none, some none, some none, some none, none, some none, none, none, none, none, none])) → sh1 (hb + 1) = some (.inl (4, 4, some (.inl g))) → (∀ j, j < 4 → g j = some (hb + 2 + 19 * j)) → (∀ j, j < 4 → Chan sh1 V1 (hb + 2 + 19 * j) (ch0 (64 + j))) → V1 hb = (fun _ => 0) → (∀ a, a < hb → sh1 a = sh a ∧ V1 a = V a) → fl_R cy z0 (ev_M cy ext (d + 9)) 1 199 9385 2 none kc_X1_init Ret 42 [(0, .ref (z0 + hb)), (1, .int (nI 4))] [] sh1 V1 (hb + 78) 93 4800 := by
    intro sh1 V1 g q1 q2 q3 q4 q5 q6
    refine fs_aload_n (pc2 := 43) rfl rfl rfl rfl ?_
    refine fs_bipush (pc2 := 45) rfl rfl rfl ?_
    refine fs_newi (pc2 := 47) rfl rfl rfl (by decide) (by decide) (Nat.le_of_ble_eq_true rfl) (Nat.le_of_ble_eq_true rfl) (Nat.le_of_ble_eq_true rfl) (fun q => by cases q) ?_
    have A1 : va_up sh1 (hb + 78) (some (.inl (1, (10 : Int32).toNatClampNeg, none))) hb = some (.inr (2, [some (some (hb + 1)), some none, some none, some none, some none, some none, some none, none, some none, none, none, none, none, none])) := by rw [va_up_ne _ _ (by omega)]; exact q1
    refine fs_putr (pc2 := 50) rfl rfl rfl (by assumption) (Nat.le_of_ble_eq_true rfl) True.intro ?_
    obtain ⟨T1, eT1⟩ : ∃ z, z = va_up (va_up sh1 (hb + 78) (some (.inl (1, (10 : Int32).toNatClampNeg, none)))) hb (some (.inr (2, [some (some (hb + 1)), some none, some none, some none, some none, some none, some none, none, some none, none, none, none, none, none].set 1 (some (some (hb + 78)))))) := ⟨_, rfl⟩
    obtain ⟨U1, eU1⟩ : ∃ z, z = va_up V1 (hb + 78) (fun _ => (0 : Int32)) := ⟨_, rfl⟩
    rw [← eT1, ← eU1]
    have T1s : T1 hb = some (.inr (2, [some (some (hb + 1)), some (some (hb + 78)), some none, some none, some none, some none, some none, none, some none, none, none, none, none, none])) := by rw [eT1, va_up_self]; rfl
    have T1a : ∀ a, a ≠ hb → a ≠ hb + 78 → T1 a = sh1 a := fun a a1 a2 => by rw [eT1, va_up_ne _ _ a1, va_up_ne _ _ a2]
    have U1a : ∀ a, a ≠ hb + 78 → U1 a = V1 a := fun a a1 => by rw [eU1, va_up_ne _ _ a1]
    have T1n : T1 (hb + 78) = some (.inl (1, 10, none)) ∧ U1 (hb + 78) = fun _ => 0 := ⟨by rw [eT1, va_up_ne _ _ (by omega), va_up_self, ec10], by rw [eU1, va_up_self]⟩
    refine fs_aload_n (pc2 := 51) rfl rfl rfl rfl ?_
    refine fs_bipush (pc2 := 53) rfl rfl rfl ?_
    refine fs_newi (pc2 := 55) rfl rfl rfl (by decide) (by decide) (Nat.le_of_ble_eq_true rfl) (Nat.le_of_ble_eq_true rfl) (Nat.le_of_ble_eq_true rfl) (fun q => by cases q) ?_
    have A2 : va_up T1 (hb + 79) (some (.inl (1, (10 : Int32).toNatClampNeg, none))) hb = some (.inr (2, [some (some (hb + 1)), some (some (hb + 78)), some none, some none, some none, some none, some none, none, some none, none, none, none, none, none])) := by rw [va_up_ne _ _ (by omega)]; exact T1s
    refine fs_putr (pc2 := 58) rfl rfl rfl (by assumption) (Nat.le_of_ble_eq_true rfl) True.intro ?_
    obtain ⟨T2, eT2⟩ : ∃ z, z = va_up (va_up T1 (hb + 79) (some (.inl (1, (10 : Int32).toNatClampNeg, none)))) hb (some (.inr (2, [some (some (hb + 1)), some (some (hb + 78)), some none, some none, some none, some none, some none, none, some none, none, none, none, none, none].set 2 (some (some (hb + 79)))))) := ⟨_, rfl⟩
    obtain ⟨U2, eU2⟩ : ∃ z, z = va_up U1 (hb + 79) (fun _ => (0 : Int32)) := ⟨_, rfl⟩
    rw [← eT2, ← eU2]
    have T2s : T2 hb = some (.inr (2, [some (some (hb + 1)), some (some (hb + 78)), some (some (hb + 79)), some none, some none, some none, some none, none, some none, none, none, none, none, none])) := by rw [eT2, va_up_self]; rfl
    have T2a : ∀ a, a ≠ hb → a ≠ hb + 79 → T2 a = T1 a := fun a a1 a2 => by rw [eT2, va_up_ne _ _ a1, va_up_ne _ _ a2]
    have U2a : ∀ a, a ≠ hb + 79 → U2 a = U1 a := fun a a1 => by rw [eU2, va_up_ne _ _ a1]
    have T2n : T2 (hb + 79) = some (.inl (1, 10, none)) ∧ U2 (hb + 79) = fun _ => 0 := ⟨by rw [eT2, va_up_ne _ _ (by omega), va_up_self, ec10], by rw [eU2, va_up_self]⟩
    refine fs_aload_n (pc2 := 59) rfl rfl rfl rfl ?_
    refine fs_bipush (pc2 := 61) rfl rfl rfl ?_
    refine fs_newi (pc2 := 63) rfl rfl rfl (by decide) (by decide) (Nat.le_of_ble_eq_true rfl) (Nat.le_of_ble_eq_true rfl) (Nat.le_of_ble_eq_true rfl) (fun q => by cases q) ?_
    have A3 : va_up T2 (hb + 80) (some (.inl (1, (10 : Int32).toNatClampNeg, none))) hb = some (.inr (2, [some (some (hb + 1)), some (some (hb + 78)), some (some (hb + 79)), some none, some none, some none, some none, none, some none, none, none, none, none, none])) := by rw [va_up_ne _ _ (by omega)]; exact T2s
    refine fs_putr (pc2 := 66) rfl rfl rfl (by assumption) (Nat.le_of_ble_eq_true rfl) True.intro ?_
    obtain ⟨T3, eT3⟩ : ∃ z, z = va_up (va_up T2 (hb + 80) (some (.inl (1, (10 : Int32).toNatClampNeg, none)))) hb (some (.inr (2, [some (some (hb + 1)), some (some (hb + 78)), some (some (hb + 79)), some none, some none, some none, some none, none, some none, none, none, none, none, none].set 3 (some (some (hb + 80)))))) := ⟨_, rfl⟩
    obtain ⟨U3, eU3⟩ : ∃ z, z = va_up U2 (hb + 80) (fun _ => (0 : Int32)) := ⟨_, rfl⟩
    rw [← eT3, ← eU3]
    have T3s : T3 hb = some (.inr (2, [some (some (hb + 1)), some (some (hb + 78)), some (some (hb + 79)), some (some (hb + 80)), some none, some none, some none, none, some none, none, none, none, none, none])) := by rw [eT3, va_up_self]; rfl
    have T3a : ∀ a, a ≠ hb → a ≠ hb + 80 → T3 a = T2 a := fun a a1 a2 => by rw [eT3, va_up_ne _ _ a1, va_up_ne _ _ a2]
    have U3a : ∀ a, a ≠ hb + 80 → U3 a = U2 a := fun a a1 => by rw [eU3, va_up_ne _ _ a1]
    have T3n : T3 (hb + 80) = some (.inl (1, 10, none)) ∧ U3 (hb + 80) = fun _ => 0 := ⟨by rw [eT3, va_up_ne _ _ (by omega), va_up_self, ec10], by rw [eU3, va_up_self]⟩
    have S3s := T3s
    have S3v : U3 hb = fun _ => 0 := by rw [U3a hb (by omega), U2a hb (by omega), U1a hb (by omega)]; exact q5
    have S3 : ∀ a, (a < hb ∨ hb < a ∧ a < hb + 78) → T3 a = sh1 a ∧ U3 a = V1 a := fun a ha => ⟨by rw [T3a a (by omega) (by omega), T2a a (by omega) (by omega), T1a a (by omega) (by omega)], by rw [U3a a (by omega), U2a a (by omega), U1a a (by omega)]⟩
    have S3n : ∀ k, k < 3 → T3 (hb + 78 + k) = some (.inl (1, 10, none)) ∧ U3 (hb + 78 + k) = fun _ => 0 := by
      intro k hk
      rcases (by omega : k = 0 ∨ k = 1 ∨ k = 2) with rfl | rfl | rfl
      · exact ⟨by rw [T3a _ (by omega) (by omega), T2a _ (by omega) (by omega)]; exact T1n.1, by rw [U3a _ (by omega), U2a _ (by omega)]; exact T1n.2⟩
      · exact ⟨by rw [T3a _ (by omega) (by omega)]; exact T2n.1, by rw [U3a _ (by omega)]; exact T2n.2⟩
      · exact T3n
    refine fs_aload_n (pc2 := 67) rfl rfl rfl rfl ?_
    refine fs_new (slots := [some none, none, none, none]) (pc2 := 70) rfl rfl rfl (Nat.le_of_ble_eq_true rfl) (Nat.le_of_ble_eq_true rfl) rfl ?_
    first | refine fs_dup_r (pc2 := 71) rfl rfl rfl ?_ | refine fs_dup_i (pc2 := 71) rfl rfl rfl ?_
    refine fs_callc (pc2 := 74) rfl rfl rfl rfl rfl ⟨rfl, rfl⟩ (Nat.le_of_ble_eq_true rfl) (Nat.le_of_ble_eq_true rfl) (Nat.le_of_ble_eq_true rfl) trivial (e_Way_init (w := hb + 81) (va_up_self _ _ _) (va_up_self _ _ _) rfl) (fun v9 sh9 V9 n9 hp9 => ?_)
    obtain ⟨ea9, eb9, W1, frW⟩ := hp9
    cases ea9
    obtain rfl := eb9.symm
    have s5 : sh9 hb = some (.inr (2, [some (some (hb + 1)), some (some (hb + 78)), some (some (hb + 79)), some (some (hb + 80)), some none, some none, some none, none, some none, none, none, none, none, none])) := by rw [(frW hb (by omega)).1, va_up_ne _ _ (by omega)]; exact S3s
    have v5 : V9 hb = fun _ => 0 := by rw [(frW hb (by omega)).2, va_up_ne _ _ (by omega)]; exact S3v
    refine fs_putr (pc2 := 77) rfl rfl rfl (by assumption) (Nat.le_of_ble_eq_true rfl) True.intro ?_
    refine fs_aload_n (pc2 := 78) rfl rfl rfl rfl ?_
    refine fs_new (slots := [none, some none, none]) (pc2 := 81) rfl rfl rfl (Nat.le_of_ble_eq_true rfl) (Nat.le_of_ble_eq_true rfl) rfl ?_
    first | refine fs_dup_r (pc2 := 82) rfl rfl rfl ?_ | refine fs_dup_i (pc2 := 82) rfl rfl rfl ?_
    refine fs_callc (pc2 := 85) rfl rfl rfl rfl rfl ⟨rfl, rfl⟩ (Nat.le_of_ble_eq_true rfl) (Nat.le_of_ble_eq_true rfl) (Nat.le_of_ble_eq_true rfl) trivial (hA _ _ _ _ (hb + 179) (va_up_self _ _ _) (by unfold eAr; rw [va_up_ne _ _ (by omega), va_up_ne _ _ (by omega), (frW a0 (by omega)).1, va_up_ne _ _ (by omega), (S3 a0 (by omega)).1, (q6 a0 ha).1]; exact h0) (by omega)) (fun v9 sh9 V9 n9 hp9 => ?_)
    obtain ⟨ea9, eb9, l1, l2, l3, l4⟩ := hp9
    cases ea9
    obtain rfl := eb9.symm
    have s6 : sh9 hb = some (.inr (2, [some (some (hb + 1)), some (some (hb + 78)), some (some (hb + 79)), some (some (hb + 80)), some (some (hb + 81)), some none, some none, none, some none, none, none, none, none, none])) := by rw [l3 hb (by omega), va_up_ne _ _ (by omega), va_up_self]; rfl
    refine fs_putr (pc2 := 88) rfl rfl rfl (by assumption) (Nat.le_of_ble_eq_true rfl) True.intro ?_
    refine fs_aload_n (pc2 := 89) rfl rfl rfl rfl ?_
    refine fs_new (slots := [some none, none]) (pc2 := 92) rfl rfl rfl (Nat.le_of_ble_eq_true rfl) (Nat.le_of_ble_eq_true rfl) rfl ?_
    first | refine fs_dup_r (pc2 := 93) rfl rfl rfl ?_ | refine fs_dup_i (pc2 := 93) rfl rfl rfl ?_
    refine fs_sipush (pc2 := 96) rfl rfl rfl ?_
    refine fs_callc (pc2 := 99) rfl rfl rfl rfl rfl ⟨rfl, rfl⟩ (Nat.le_of_ble_eq_true rfl) (Nat.le_of_ble_eq_true rfl) (Nat.le_of_ble_eq_true rfl) trivial (e_Row_init (r := hb + 180) (room := 128) (by decide) (va_up_self _ _ _) (by rw [va_up_self]) rfl) (fun v9 sh9 V9 n9 hp9 => ?_)
    obtain ⟨ea9, eb9, R1, hs1b, hv1b⟩ := hp9
    cases ea9
    obtain rfl := eb9.symm
    have s7 : sh9 hb = some (.inr (2, [some (some (hb + 1)), some (some (hb + 78)), some (some (hb + 79)), some (some (hb + 80)), some (some (hb + 81)), some (some (hb + 179)), some none, none, some none, none, none, none, none, none])) := by rw [hs1b hb (by omega) (by omega), va_up_ne _ _ (by omega), va_up_self]; rfl
    refine fs_putr (pc2 := 102) rfl rfl rfl (by assumption) (Nat.le_of_ble_eq_true rfl) True.intro ?_
    refine fs_aload_n (pc2 := 103) rfl rfl rfl rfl ?_
    refine fs_new (slots := [some none, none]) (pc2 := 106) rfl rfl rfl (Nat.le_of_ble_eq_true rfl) (Nat.le_of_ble_eq_true rfl) rfl ?_
    first | refine fs_dup_r (pc2 := 107) rfl rfl rfl ?_ | refine fs_dup_i (pc2 := 107) rfl rfl rfl ?_
    refine fs_sipush (pc2 := 110) rfl rfl rfl ?_
    refine fs_callc (pc2 := 113) rfl rfl rfl rfl rfl ⟨rfl, rfl⟩ (Nat.le_of_ble_eq_true rfl) (Nat.le_of_ble_eq_true rfl) (Nat.le_of_ble_eq_true rfl) trivial (e_Row_init (r := hb + 182) (room := 128) (by decide) (va_up_self _ _ _) (by rw [va_up_self]) rfl) (fun v9 sh9 V9 n9 hp9 => ?_)
    obtain ⟨ea9, eb9, R2, hs2b, hv2b⟩ := hp9
    cases ea9
    obtain rfl := eb9.symm
    have s8 : sh9 hb = some (.inr (2, [some (some (hb + 1)), some (some (hb + 78)), some (some (hb + 79)), some (some (hb + 80)), some (some (hb + 81)), some (some (hb + 179)), some (some (hb + 180)), none, some none, none, none, none, none, none])) := by rw [hs2b hb (by omega) (by omega), va_up_ne _ _ (by omega), va_up_self]; rfl
    refine fs_putr (pc2 := 116) rfl rfl rfl (by assumption) (Nat.le_of_ble_eq_true rfl) True.intro ?_
    refine fs_ret rfl rfl ?_
    have sF : ∀ a, a ≠ hb → a < hb + 81 → va_up sh9 hb (some (.inr (2, [some (some (hb + 1)), some (some (hb + 78)), some (some (hb + 79)), some (some (hb + 80)), some (some (hb + 81)), some (some (hb + 179)), some (some (hb + 180)), none, some none, none, none, none, none, none].set 8 (some (some (hb + 182)))))) a = T3 a := fun a a1 a2 => by rw [va_up_ne _ _ a1, hs2b a (by omega) (by omega), va_up_ne _ _ (by omega), va_up_ne _ _ a1, hs1b a (by omega) (by omega), va_up_ne _ _ (by omega), va_up_ne _ _ a1, l3 a (by omega), va_up_ne _ _ (by omega), va_up_ne _ _ a1, (frW a a2).1, va_up_ne _ _ (by omega)]
    have vF : ∀ a, a < hb + 81 → V9 a = U3 a := fun a a2 => by rw [hv2b a (by omega), va_up_ne _ _ (by omega), hv1b a (by omega), va_up_ne _ _ (by omega), l4 a (by omega), va_up_ne _ _ (by omega), (frW a a2).2, va_up_ne _ _ (by omega)]
    have sW : ∀ a, hb + 81 ≤ a → a < hb + 179 → va_up sh9 hb (some (.inr (2, [some (some (hb + 1)), some (some (hb + 78)), some (some (hb + 79)), some (some (hb + 80)), some (some (hb + 81)), some (some (hb + 179)), some (some (hb + 180)), none, some none, none, none, none, none, none].set 8 (some (some (hb + 182)))))) a = _ := fun a a1 a2 => (va_up_ne _ _ (by omega)).trans ((hs2b a (by omega) (by omega)).trans ((va_up_ne _ _ (by omega)).trans ((va_up_ne _ _ (by omega)).trans ((hs1b a (by omega) (by omega)).trans ((va_up_ne _ _ (by omega)).trans ((va_up_ne _ _ (by omega)).trans ((l3 a (by omega)).trans ((va_up_ne _ _ (by omega)).trans (va_up_ne _ _ (by omega))))))))))
    have vW : ∀ a, hb + 81 ≤ a → a < hb + 179 → V9 a = _ := fun a a1 a2 => (hv2b a (by omega)).trans ((va_up_ne _ _ (by omega)).trans ((hv1b a (by omega)).trans ((va_up_ne _ _ (by omega)).trans ((l4 a (by omega)).trans (va_up_ne _ _ (by omega))))))
    refine hP _ _ _ _ ⟨rfl, rfl, ⟨?_, ⟨g, ?_, q3⟩, fun j hj => ?_, fun k hk => ?_, ?_, ?_, ?_, ?_, ?_, ?_⟩, fun a ha => ⟨?_, ?_⟩⟩
    · unfold isHo; rw [va_up_self]; rfl
    · rw [sF _ (by omega) (by omega), (S3 _ (by omega)).1]; exact q2
    · exact ((q4 j hj).shape (fun a a1 a2 => by rw [sF a (by omega) (by omega), (S3 a (by omega)).1])).kept (fun a a1 a2 => by rw [vF a (by omega), (S3 a (by omega)).2])
    · rw [sF _ (by omega) (by omega), vF _ (by omega)]; exact S3n k hk
    · exact (W1.shape (fun a a1 a2 => sW a a1 (by omega))).kept (fun a a1 a2 => vW a a1 (by omega))
    · unfold eAl; rw [va_up_ne _ _ (by omega), hs2b _ (by omega) (by omega), va_up_ne _ _ (by omega), va_up_ne _ _ (by omega), hs1b _ (by omega) (by omega), va_up_ne _ _ (by omega), va_up_ne _ _ (by omega)]; exact l1
    · rw [hv2b _ (by omega), va_up_ne _ _ (by omega), hv1b _ (by omega), va_up_ne _ _ (by omega), l2, va_up_self]
    · exact (R1.shape (by rw [va_up_ne _ _ (by omega), hs2b _ (by omega) (by omega), va_up_ne _ _ (by omega), va_up_ne _ _ (by omega)]) (by rw [va_up_ne _ _ (by omega), hs2b _ (by omega) (by omega), va_up_ne _ _ (by omega), va_up_ne _ _ (by omega)])).kept (by rw [hv2b _ (by omega), va_up_ne _ _ (by omega)]) (by rw [hv2b _ (by omega), va_up_ne _ _ (by omega)])
    · exact R2.shape (va_up_ne _ _ (by omega)) (va_up_ne _ _ (by omega))
    · rw [vF hb (by omega)]; exact S3v
    · rw [sF a (by omega) (by omega), (S3 a (by omega)).1]; exact (q6 a ha).1
    · rw [vF a (by omega), (S3 a (by omega)).2]; exact (q6 a ha).2
  refine fs_aload_n (pc2 := 1) rfl rfl rfl rfl ?_
  refine fs_objinit (pc2 := 4) rfl rfl rfl rfl (Nat.le_of_ble_eq_true rfl) ?_
  refine fs_aload_n (pc2 := 5) rfl rfl rfl rfl ?_
  refine fs_iconst (pc2 := 6) rfl rfl rfl ?_
  refine fs_newq (pc2 := 9) rfl rfl rfl (by decide) (Nat.le_of_ble_eq_true rfl) (by rw [ec]; decide) (by rw [ec]; decide) ?_
  refine fs_putr (pc2 := 12) rfl rfl rfl (by assumption) (Nat.le_of_ble_eq_true rfl) True.intro ?_
  refine fs_iconst (pc2 := 13) rfl rfl rfl ?_
  refine fs_istore_n (pc2 := 14) rfl rfl rfl (Nat.le_of_ble_eq_true rfl) ?_
  refine e_Host_init_loop (sh0 := sh) (V0 := V) k42 4 0 (by omega) _ _ _ _ _ (fun _ => none) rfl rfl rfl (va_up_self _ _ _) ?_ (fun j hj => by omega) (fun j hj => by omega) ?_ (fun a ha => ⟨?_, ?_⟩)
  · rw [va_up_ne _ _ (by omega), va_up_self, ec]
  · rw [va_up_ne _ _ (by omega), hv]
  · rw [va_up_ne _ _ (by omega), va_up_ne _ _ (by omega)]
  · rw [va_up_ne _ _ (by omega)]
end INIT2
