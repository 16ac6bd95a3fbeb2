/-! what a host does with a signal -/
def tl (H : Ho) (k : Nat) : Nat := num2 H.2.2.2.2.2.2 (8 + 2 * k)
def ch_open (y : Ch) (f m p c : Nat) : Ch := (va_up (va_up (va_up (va_up (va_up y.1 1 2) 6 f) 7 m) 8 p) 9 c, y.2)
def ch_close (y : Ch) : Ch := (va_up (va_up (va_up (va_up (va_up (va_up (va_up y.1 1 0) 5 0) 6 0) 7 0) 8 0) 9 0) 11 0, none, [], y.2.2.2.1, [])
def ho_judge (H : Ho) (s f m p : Nat) : Nat := if ho_has H s = false then 2 else if m < 23 ∨ p < 23 then 11 else if ¬ (64 ≤ f ∧ f ≤ 127) then 9 else if (first4 (fun j => ch_far (H.2.1 j) f)).isSome then 10 else if (ho_closed H).isNone then 4 else 0
theorem ho_judge_lt (H : Ho) (s f m p : Nat) : ho_judge H s f m p < 12 := by
  unfold ho_judge
  repeat' split
  all_goals omega
section ON
variable {cy : Nat → ClassId} {z0 : Nat} {ext : Nat → Nat → List Value → ev_H → Nat → ev_P → Prop} {d : Nat} {sh : fl_S} {V : fl_V} {n K a0 hb e : Nat} {rs : List Nat} {H : Ho}
theorem tl_lt (hH : Host sh V n K a0 hb e rs H) (k : Nat) : tl H k < 65536 := num2_lt hH.2.2.2.2.2.2.1.2.2.2.1 _
theorem e_tl (hH : Host sh V n K a0 hb e rs H) {k t : Nat} (hk : k < 2 ^ 20) (ht : tl H k = t) : fl_M cy z0 ext (d + 2) m_X1_told [.ref (z0 + hb), .int (nI k)] sh V n (fun v sh' V' n' => v = some (.int (nI t)) ∧ sh' = sh ∧ n' = n ∧ V' = V) := by
  subst ht
  exact e_told hk hH
set_option maxRecDepth 100000 in
set_option maxHeartbeats 4000000 in
theorem e_judge_loop (hH : Host sh V n K a0 hb e rs H) {s f m p : Nat} (hf : f < 65536) {Ret : ev_P} (hP : ∀ r : Nat, r = (if (first4 (fun j => ch_far (H.2.1 j) f)).isSome then 10 else if (ho_closed H).isNone then 4 else 0) → Ret (some (.int (nI r))) (fl_f cy z0 sh V) (z0 + n)) : ∀ (k i : Nat), i + k = 4 → (∀ j, j < i → ch_far (H.2.1 j) f = false) → fl_R cy z0 (ev_M cy ext (d + 2)) 1 0 0 6 (some .int) kc_X1_judgeRequest Ret 39 [(0, .ref (z0 + hb)), (1, .int (nI s)), (2, .int (nI f)), (3, .int (nI m)), (4, .int (nI p)), (5, .int (nI i))] [] sh V n 0 0 := by
  obtain ⟨⟨f1, ⟨gc, f2, f3⟩, f4, f5, f6⟩, HC, HS, ⟨wh, HW⟩, HQ, HB, HG, HI⟩ := id hH
  unfold isHo at f1
  obtain ⟨b1, b2⟩ := id HB.1
  obtain ⟨t1, t2⟩ := id HG.1
  have al0 := HQ.1
  unfold eAl at al0
  have lnG : H.2.2.2.2.2.2.length ≤ 128 := HG.2.2.1
  have lnB : H.2.2.2.2.2.1.length ≤ 128 := HB.2.2.1
  have eG : V (hb + 182) 1 = nI H.2.2.2.2.2.2.length := HG.2.2.2.2.1
  have eB : V (hb + 180) 1 = nI H.2.2.2.2.2.1.length := HB.2.2.2.2.1
  intro k
  induction k with
  | zero =>
    intro i hik hj
    have hi4 : i = 4 := by omega
    subst hi4
    rw [show first4 (fun j => ch_far (H.2.1 j) f) = none from first4_none hj] at hP
    cases hcl : ho_closed H with
    | none =>
      rw [hcl] at hP
      refine fs_iload (pc2 := 41) rfl rfl rfl rfl ?_
      refine fs_iconst (pc2 := 42) rfl rfl rfl ?_
      refine fs_icmp_ge (pc2 := 45) rfl rfl rfl (fun h42 => ?_) (fun h42 => ?_)
      · refine fs_aload_n (pc2 := 69) rfl rfl rfl rfl ?_
        refine fs_callv (pc2 := 72) rfl rfl rfl rfl ⟨rfl, rfl⟩ (Nat.le_of_ble_eq_true rfl) (Nat.le_of_ble_eq_true rfl) (Nat.le_of_ble_eq_true rfl) (fs_rcv rfl (by assumption)) (e_firstClosed hH) (fun v9 sh9 V9 n9 hp9 => ?_)
        obtain ⟨ea9, eb9, ec9, hv9⟩ := hp9
        cases ea9
        obtain rfl := eb9.symm
        obtain rfl := ec9.symm
        cases hv9
        rw [hcl]
        refine fs_ifnonnull0 (pc2 := 75) rfl rfl rfl ?_
        refine fs_iconst (pc2 := 76) rfl rfl rfl ?_
        refine fs_goto rfl rfl ?_
        refine fs_iret rfl rfl True.intro ?_
        exact hP 4 rfl
      · exact absurd h42 (by decide)
    | some q =>
      rw [hcl] at hP
      refine fs_iload (pc2 := 41) rfl rfl rfl rfl ?_
      refine fs_iconst (pc2 := 42) rfl rfl rfl ?_
      refine fs_icmp_ge (pc2 := 45) rfl rfl rfl (fun h42 => ?_) (fun h42 => ?_)
      · refine fs_aload_n (pc2 := 69) rfl rfl rfl rfl ?_
        refine fs_callv (pc2 := 72) rfl rfl rfl rfl ⟨rfl, rfl⟩ (Nat.le_of_ble_eq_true rfl) (Nat.le_of_ble_eq_true rfl) (Nat.le_of_ble_eq_true rfl) (fs_rcv rfl (by assumption)) (e_firstClosed hH) (fun v9 sh9 V9 n9 hp9 => ?_)
        obtain ⟨ea9, eb9, ec9, hv9⟩ := hp9
        cases ea9
        obtain rfl := eb9.symm
        obtain rfl := ec9.symm
        cases hv9
        rw [hcl]
        refine fs_ifnonnull rfl rfl ?_
        refine fs_iconst (pc2 := 80) rfl rfl rfl ?_
        refine fs_iret rfl rfl True.intro ?_
        exact hP 0 rfl
      · exact absurd h42 (by decide)
  | succ k ih =>
    intro i hik hj
    have i1 : vp_in (nI i) 4 := vp_in_nI (by omega) (by decide)
    have i2 : gc (nI i).toNatClampNeg = some (hb + 2 + 19 * i) := by rw [nI_clamp (by omega)]; exact f3 i (by omega)
    have hc := (HC i (by omega)).1
    have s0 := hc.1
    unfold isChan at s0
    refine fs_iload (pc2 := 41) rfl rfl rfl rfl ?_
    refine fs_iconst (pc2 := 42) rfl rfl rfl ?_
    refine fs_icmp_ge (pc2 := 45) rfl rfl rfl (fun h42 => ?_) (fun h42 => ?_)
    · exact absurd (nI_lt (a := i) (b := 4) (by omega) (by decide)) h42
    · refine fs_aload_n (pc2 := 46) rfl rfl rfl rfl ?_
      refine fs_getr (pc2 := 49) rfl rfl rfl (by assumption) rfl ?_
      refine fs_iload (pc2 := 51) rfl rfl rfl rfl ?_
      refine fs_aald (pc2 := 52) rfl rfl rfl (by assumption) i1 i2 ?_
      refine fs_iload_n (pc2 := 53) rfl rfl rfl rfl ?_
      refine fs_callv (pc2 := 56) rfl rfl rfl rfl ⟨rfl, rfl⟩ (Nat.le_of_ble_eq_true rfl) (Nat.le_of_ble_eq_true rfl) (Nat.le_of_ble_eq_true rfl) (fs_rcv rfl (by assumption)) (e_Chan_hasFar (by omega) hc) (fun v9 sh9 V9 n9 hp9 => ?_)
      obtain ⟨ea9, eb9, ec9, hv9⟩ := hp9
      cases ea9
      obtain rfl := eb9.symm
      obtain rfl := ec9.symm
      cases hv9
      refine fs_if_eq (pc2 := 59) rfl rfl rfl (fun h56 => ?_) (fun h56 => ?_)
      · have k56 : ch_far (H.2.1 i) f = false := bI_0.mp h56
        refine fs_iinc (pc2 := 65) rfl rfl rfl (Nat.le_of_ble_eq_true rfl) rfl ?_
        refine fs_goto rfl rfl ?_
        rw [nI_1 i]
        refine ih (i + 1) (by omega) (fun j hji => ?_)
        by_cases hj2 : j = i
        · subst hj2; exact k56
        · exact hj j (by omega)
      · have k56 : ch_far (H.2.1 i) f = true := by
          cases hb2 : ch_far (H.2.1 i) f with
          | true => rfl
          | false => rw [hb2] at h56; exact absurd rfl h56
        rw [show first4 (fun j => ch_far (H.2.1 j) f) = some i from first4_some (by omega) k56 hj] at hP
        refine fs_bipush (pc2 := 61) rfl rfl rfl ?_
        refine fs_iret rfl rfl True.intro ?_
        exact hP 10 rfl
set_option maxRecDepth 100000 in
set_option maxHeartbeats 4000000 in
theorem e_judge (hH : Host sh V n K a0 hb e rs H) {s f m p : Nat} (hs : s < 65536) (hf : f < 65536) (hm : m < 65536) (hp : p < 65536) : fl_M cy z0 ext (d + 3) m_X1_judgeRequest [.ref (z0 + hb), .int (nI s), .int (nI f), .int (nI m), .int (nI p)] sh V n (fun v sh' V' n' => v = some (.int (nI (ho_judge H s f m p))) ∧ sh' = sh ∧ n' = n ∧ V' = V) := by
  obtain ⟨⟨f1, ⟨gc, f2, f3⟩, f4, f5, f6⟩, HC, HS, ⟨wh, HW⟩, HQ, HB, HG, HI⟩ := id hH
  unfold isHo at f1
  obtain ⟨b1, b2⟩ := id HB.1
  obtain ⟨t1, t2⟩ := id HG.1
  have al0 := HQ.1
  unfold eAl at al0
  have lnG : H.2.2.2.2.2.2.length ≤ 128 := HG.2.2.1
  have lnB : H.2.2.2.2.2.1.length ≤ 128 := HB.2.2.1
  have eG : V (hb + 182) 1 = nI H.2.2.2.2.2.2.length := HG.2.2.2.2.1
  have eB : V (hb + 180) 1 = nI H.2.2.2.2.2.1.length := HB.2.2.2.2.1
  refine fs_body rfl rfl (fun Ret hP => ?_)
  refine fs_aload_n (pc2 := 1) rfl rfl rfl rfl ?_
  refine fs_iload_n (pc2 := 2) rfl rfl rfl rfl ?_
  refine fs_callv (pc2 := 5) rfl rfl rfl rfl ⟨rfl, rfl⟩ (Nat.le_of_ble_eq_true rfl) (Nat.le_of_ble_eq_true rfl) (Nat.le_of_ble_eq_true rfl) (fs_rcv rfl (by assumption)) (e_hasService hs hH) (fun v9 sh9 V9 n9 hp9 => ?_)
  obtain ⟨ea9, eb9, ec9, hv9⟩ := hp9
  cases ea9
  obtain rfl := eb9.symm
  obtain rfl := ec9.symm
  cases hv9
  refine fs_if_ne (pc2 := 8) rfl rfl rfl (fun h5 => ?_) (fun h5 => ?_)
  · have k5 : ho_has H s = true := by
      cases hb2 : ho_has H s with
      | true => rfl
      | false => rw [hb2] at h5; exact absurd rfl h5
    refine fs_iload_n (pc2 := 11) rfl rfl rfl rfl ?_
    refine fs_bipush (pc2 := 13) rfl rfl rfl ?_
    refine fs_icmp_lt (pc2 := 16) rfl rfl rfl (fun h13 => ?_) (fun h13 => ?_)
    · have k13 : m < 23 := c_lt h13 rfl rfl
      refine fs_bipush (pc2 := 25) rfl rfl rfl ?_
      refine fs_iret rfl rfl True.intro ?_
      refine hP _ _ _ _ ⟨?_, rfl, rfl, rfl⟩
      rw [show ho_judge H s f m p = 11 from by unfold ho_judge; rw [if_neg (by rw [k5]; decide), if_pos (by omega)]]
      rfl
    · have k13 : 23 ≤ m := c_nlt h13 rfl rfl
      refine fs_iload (pc2 := 18) rfl rfl rfl rfl ?_
      refine fs_bipush (pc2 := 20) rfl rfl rfl ?_
      refine fs_icmp_ge (pc2 := 23) rfl rfl rfl (fun h20 => ?_) (fun h20 => ?_)
      · have k20 : 23 ≤ p := c_nlt h20 rfl rfl
        refine fs_iload_n (pc2 := 27) rfl rfl rfl rfl ?_
        refine fs_calls (pc2 := 30) rfl rfl rfl rfl rfl rfl ⟨rfl, rfl⟩ (Nat.le_of_ble_eq_true rfl) (Nat.le_of_ble_eq_true rfl) (Nat.le_of_ble_eq_true rfl) (e_isFar (u := nI f)) (fun v9 sh9 V9 n9 hp9 => ?_)
        obtain ⟨ea9, eb9, ec9, hv9⟩ := hp9
        cases ea9
        obtain rfl := eb9.symm
        obtain rfl := ec9.symm
        cases hv9
        refine fs_if_ne (pc2 := 33) rfl rfl rfl (fun h30 => ?_) (fun h30 => ?_)
        · rw [isFarB_nI (by omega)] at h30
          have k30 : 64 ≤ f ∧ f ≤ 127 := by
            by_cases q : 64 ≤ f ∧ f ≤ 127
            · exact q
            · rw [decide_eq_false q] at h30; exact absurd rfl h30
          refine fs_iconst (pc2 := 37) rfl rfl rfl ?_
          refine fs_istore (pc2 := 39) rfl rfl rfl (Nat.le_of_ble_eq_true rfl) ?_
          refine e_judge_loop hH hf (fun r hr => hP _ _ _ _ ⟨?_, rfl, rfl, rfl⟩) 4 0 (by omega) (fun j hj => by omega)
          rw [show ho_judge H s f m p = r from by unfold ho_judge; rw [if_neg (by rw [k5]; decide), if_neg (by omega), if_neg (by simpa using k30), hr]]
        · rw [isFarB_nI (by omega)] at h30
          have k30 : ¬ (64 ≤ f ∧ f ≤ 127) := of_decide_eq_false (bI_0.mp h30)
          refine fs_bipush (pc2 := 35) rfl rfl rfl ?_
          refine fs_iret rfl rfl True.intro ?_
          refine hP _ _ _ _ ⟨?_, rfl, rfl, rfl⟩
          rw [show ho_judge H s f m p = 9 from by unfold ho_judge; rw [if_neg (by rw [k5]; decide), if_neg (by omega), if_pos k30]]
          rfl
      · have k20 : p < 23 := c_lt h20 rfl rfl
        refine fs_bipush (pc2 := 25) rfl rfl rfl ?_
        refine fs_iret rfl rfl True.intro ?_
        refine hP _ _ _ _ ⟨?_, rfl, rfl, rfl⟩
        rw [show ho_judge H s f m p = 11 from by unfold ho_judge; rw [if_neg (by rw [k5]; decide), if_pos (by omega)]]
        rfl
  · have k5 : ho_has H s = false := bI_0.mp h5
    refine fs_iconst (pc2 := 9) rfl rfl rfl ?_
    refine fs_iret rfl rfl True.intro ?_
    refine hP _ _ _ _ ⟨?_, rfl, rfl, rfl⟩
    rw [show ho_judge H s f m p = 2 from by unfold ho_judge; rw [if_pos k5]]
    rfl
end ON
