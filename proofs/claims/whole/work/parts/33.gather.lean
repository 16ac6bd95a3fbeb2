def ho_drop (H : Ho) : Ho := hoN (hoG H []) 12 (H.1 12 + 1)
def ho_gath2 (H : Ho) (ys : List Nat) : Bool × Ho := if (H.2.2.2.2.2.2 ++ ys).length < 4 then (false, hoG H (H.2.2.2.2.2.2 ++ ys)) else if 4 + num2 (H.2.2.2.2.2.2 ++ ys) 0 < (H.2.2.2.2.2.2 ++ ys).length then (false, ho_drop (hoG H (H.2.2.2.2.2.2 ++ ys))) else (decide ((H.2.2.2.2.2.2 ++ ys).length = 4 + num2 (H.2.2.2.2.2.2 ++ ys) 0), hoG H (H.2.2.2.2.2.2 ++ ys))
/-- a packet's bytes go behind what is gathered: whether that is a whole unit -/
def ho_gath (H : Ho) (mk : Bool) (ys : List Nat) : Bool × Ho := if mk = true then (if H.2.2.2.2.2.2 = [] then ho_gath2 H ys else ho_gath2 (ho_drop H) ys) else if H.2.2.2.2.2.2 = [] then (false, ho_drop H) else if 128 < H.2.2.2.2.2.2.length + ys.length then (false, ho_drop H) else ho_gath2 H ys
section GATHER
variable {cy : Nat → ClassId} {z0 : Nat} {ext : Nat → Nat → List Value → ev_H → Nat → ev_P → Prop} {d : Nat} {sh : fl_S} {V : fl_V} {n K a0 hb e : Nat} {rs : List Nat} {H : Ho}
set_option maxRecDepth 100000 in
set_option maxHeartbeats 4000000 in
theorem e_dropGathered (hH : Host sh V n K a0 hb e rs H) : fl_M cy z0 ext (d + 2) m_X1_dropGathered [.ref (z0 + hb)] sh V n (fun v sh' V' n' => v = none ∧ sh' = sh ∧ n' = n ∧ Host sh V' n K a0 hb e rs (ho_drop H) ∧ ∀ a, a ≠ hb → a ≠ hb + 182 → V' a = V a) := by
  obtain ⟨⟨f1, ⟨gc, f2, f3⟩, f4, f5, f6⟩, HC, HS, ⟨wh, HW⟩, HQ, HB, HG, HI⟩ := id hH
  unfold isHo at f1
  obtain ⟨b1, b2⟩ := id HB.1
  obtain ⟨t1, t2⟩ := id HG.1
  have al0 := HQ.1
  unfold eAl at al0
  have lnG : H.2.2.2.2.2.2.length ≤ 128 := HG.2.2.1
  have lnB : H.2.2.2.2.2.1.length ≤ 128 := HB.2.2.1
  have eG : V (hb + 182) 1 = nI H.2.2.2.2.2.2.length := HG.2.2.2.2.1
  have eB : V (hb + 180) 1 = nI H.2.2.2.2.2.1.length := HB.2.2.2.2.1
  refine fs_body rfl rfl (fun Ret hP => ?_)
  refine fs_aload_n (pc2 := 1) rfl rfl rfl rfl ?_
  refine fs_getr (pc2 := 4) rfl rfl rfl (by assumption) rfl ?_
  refine fs_callv (pc2 := 7) rfl rfl rfl rfl ⟨rfl, rfl⟩ (Nat.le_of_ble_eq_true rfl) (Nat.le_of_ble_eq_true rfl) (Nat.le_of_ble_eq_true rfl) (fs_rcv rfl (by assumption)) (e_Row_clear HG) (fun v9 sh9 V9 n9 hp9 => ?_)
  obtain ⟨ea9, eb9, ec9, hr, hf⟩ := hp9
  cases ea9
  obtain rfl := eb9.symm
  obtain rfl := ec9.symm
  have k1 := hH.putG hr (fun a a1 a2 => hf a a1)
  have e12 : V9 hb 12 + 1 = nI (H.1 12 + 1) := by rw [hf hb (by omega), HI 12 (by omega), nI_1]
  refine fs_aload_n (pc2 := 8) rfl rfl rfl rfl ?_
  first | refine fs_dup_r (pc2 := 9) rfl rfl rfl ?_ | refine fs_dup_i (pc2 := 9) rfl rfl rfl ?_
  refine fs_geti (pc2 := 12) rfl rfl rfl (by assumption) rfl ?_
  refine fs_iconst (pc2 := 13) rfl rfl rfl ?_
  refine fs_iadd (pc2 := 14) rfl rfl rfl ?_
  refine fs_puti (pc2 := 17) rfl rfl rfl (by assumption) rfl True.intro ?_
  refine fs_ret rfl rfl ?_
  rw [e12]
  exact hP _ _ _ _ ⟨rfl, rfl, rfl, k1.putN 12 _, fun a a1 a2 => by rw [up2_o (by omega), hf a (by omega)]⟩
set_option maxRecDepth 100000 in
set_option maxHeartbeats 4000000 in
theorem e_gather {p : Nat} {y : Pkt} (hp1 : hb + 83 ≤ p) (hp2 : p + 3 ≤ hb + 179) (hpk : Pk sh V p y) (hH : Host sh V n K a0 hb e rs H) : fl_M cy z0 ext (d + 3) m_X1_gather [.ref (z0 + hb), .ref (z0 + p)] sh V n (fun v sh' V' n' => v = some (.int (bI (ho_gath H y.1 y.2.2).1)) ∧ sh' = sh ∧ n' = n ∧ Host sh V' n K a0 hb e rs (ho_gath H y.1 y.2.2).2 ∧ ∀ a, (a < hb ∨ hb + 184 ≤ a) → V' a = V a) := by
  obtain ⟨⟨f1, ⟨gc, f2, f3⟩, f4, f5, f6⟩, HC, HS, ⟨wh, HW⟩, HQ, HB, HG, HI⟩ := id hH
  unfold isHo at f1
  obtain ⟨b1, b2⟩ := id HB.1
  obtain ⟨t1, t2⟩ := id HG.1
  have al0 := HQ.1
  unfold eAl at al0
  have lnG : H.2.2.2.2.2.2.length ≤ 128 := HG.2.2.1
  have lnB : H.2.2.2.2.2.1.length ≤ 128 := HB.2.2.1
  have eG : V (hb + 182) 1 = nI H.2.2.2.2.2.2.length := HG.2.2.2.2.1
  have eB : V (hb + 180) 1 = nI H.2.2.2.2.2.1.length := HB.2.2.2.2.1
  obtain ⟨p0, pm, ps, pr⟩ := id hpk
  obtain ⟨p1, p2⟩ := id pr.1
  have ly : y.2.2.length ≤ 27 := pr.2.2.1
  have ey : V (p + 1) 1 = nI y.2.2.length := pr.2.2.2.2.1
  refine fs_body rfl rfl (fun Ret hP => ?_)
  have j75 : ∀ (V1 : fl_V) (H1 : Ho) (w : Int32), Host sh V1 n K a0 hb e rs H1 → (∀ a, (a < hb ∨ hb + 184 ≤ a) → V1 a = V a) → Pk sh V1 p y → H1.2.2.2.2.2.2.length + y.2.2.length ≤ 128 → ho_gath H y.1 y.2.2 = ho_gath2 H1 y.2.2 → fl_R cy z0 (ev_M cy ext (d + 2)) 1 0 0 4 (some .boolean) kc_X1_gather Ret 75 [(0, .ref (z0 + hb)), (1, .ref (z0 + p)), (2, .int w)] [] sh V1 n 0 0 := by
    clear hH f1 f2 f3 HC HS HW HQ HB HG HI b1 b2 t1 t2 al0 lnG lnB eG eB hpk p0 pm ps pr p1 p2 ly ey
    intro V1 H1 w hH hv1 hpk hle heq
    rw [heq] at hP
    unfold ho_gath2 at hP
    obtain ⟨⟨f1, ⟨gc, f2, f3⟩, f4, f5, f6⟩, HC, HS, ⟨wh, HW⟩, HQ, HB, HG, HI⟩ := id hH
    unfold isHo at f1
    obtain ⟨b1, b2⟩ := id HB.1
    obtain ⟨t1, t2⟩ := id HG.1
    have al0 := HQ.1
    unfold eAl at al0
    have lnG : H1.2.2.2.2.2.2.length ≤ 128 := HG.2.2.1
    have lnB : H1.2.2.2.2.2.1.length ≤ 128 := HB.2.2.1
    have eG : V1 (hb + 182) 1 = nI H1.2.2.2.2.2.2.length := HG.2.2.2.2.1
    have eB : V1 (hb + 180) 1 = nI H1.2.2.2.2.2.1.length := HB.2.2.2.2.1
    obtain ⟨p0, pm, ps, pr⟩ := id hpk
    obtain ⟨p1, p2⟩ := id pr.1
    have ly : y.2.2.length ≤ 27 := pr.2.2.1
    have ey : V1 (p + 1) 1 = nI y.2.2.length := pr.2.2.2.2.1
    refine fs_aload_n (pc2 := 76) rfl rfl rfl rfl ?_
    refine fs_getr (pc2 := 79) rfl rfl rfl (by assumption) rfl ?_
    refine fs_aload_n (pc2 := 80) rfl rfl rfl rfl ?_
    refine fs_getr (pc2 := 83) rfl rfl rfl (by assumption) rfl ?_
    refine fs_iconst (pc2 := 84) rfl rfl rfl ?_
    refine fs_aload_n (pc2 := 85) rfl rfl rfl rfl ?_
    refine fs_getr (pc2 := 88) rfl rfl rfl (by assumption) rfl ?_
    refine fs_geti (pc2 := 91) rfl rfl rfl (by assumption) rfl ?_
    refine fs_callv (pc2 := 94) rfl rfl rfl rfl ⟨rfl, rfl⟩ (Nat.le_of_ble_eq_true rfl) (Nat.le_of_ble_eq_true rfl) (Nat.le_of_ble_eq_true rfl) (fs_rcv rfl (by assumption)) (by rw [ey]; exact e_Row_addPart (s := 0) (by decide) (by omega) HG pr (by omega) (by omega) (by omega) (by simp; omega)) (fun v9 sh9 V9 n9 hp9 => ?_)
    obtain ⟨ea9, eb9, ec9, hr1, hf1⟩ := hp9
    cases ea9
    obtain rfl := eb9.symm
    obtain rfl := ec9.symm
    rw [List.drop_zero, List.take_of_length_le (Nat.le_refl _)] at hr1
    have k1 := hH.putG hr1 (fun a a1 a2 => hf1 a a1 a2)
    have eg1 : V9 (hb + 182) 1 = nI (H1.2.2.2.2.2.2 ++ y.2.2).length := hr1.2.2.2.2.1
    have lg1 : (H1.2.2.2.2.2.2 ++ y.2.2).length ≤ 128 := hr1.2.2.1
    have ln0 := num2_lt hr1.2.2.2.1 0
    refine fs_aload_n (pc2 := 95) rfl rfl rfl rfl ?_
    refine fs_getr (pc2 := 98) rfl rfl rfl (by assumption) rfl ?_
    refine fs_geti (pc2 := 101) rfl rfl rfl (by assumption) rfl ?_
    refine fs_iconst (pc2 := 102) rfl rfl rfl ?_
    refine fs_icmp_ge (pc2 := 105) rfl rfl rfl (fun h102 => ?_) (fun h102 => ?_)
    · have k102 : 4 ≤ (H1.2.2.2.2.2.2 ++ y.2.2).length := c_nlt h102 eg1 rfl
      rw [if_neg (by omega)] at hP
      refine fs_iconst (pc2 := 108) rfl rfl rfl ?_
      refine fs_aload_n (pc2 := 109) rfl rfl rfl rfl ?_
      refine fs_getr (pc2 := 112) rfl rfl rfl (by assumption) rfl ?_
      refine fs_iconst (pc2 := 113) rfl rfl rfl ?_
      refine fs_callv (pc2 := 116) rfl rfl rfl rfl ⟨rfl, rfl⟩ (Nat.le_of_ble_eq_true rfl) (Nat.le_of_ble_eq_true rfl) (Nat.le_of_ble_eq_true rfl) (fs_rcv rfl (by assumption)) (e_Row_numberAt (j := 0) (by decide) hr1) (fun v9 sh9 V9 n9 hp9 => ?_)
      obtain ⟨ea9, eb9, ec9, hv9⟩ := hp9
      cases ea9
      obtain rfl := eb9.symm
      obtain rfl := ec9.symm
      obtain rfl := hv9.symm
      have e4 : (4 : Int32) + nI (num2 (H1.2.2.2.2.2.2 ++ y.2.2) 0) = nI (4 + num2 (H1.2.2.2.2.2.2 ++ y.2.2) 0) := nI_add 4 _
      refine fs_iadd (pc2 := 117) rfl rfl rfl ?_
      refine fs_istore_n (pc2 := 118) rfl rfl rfl (Nat.le_of_ble_eq_true rfl) ?_
      refine fs_aload_n (pc2 := 119) rfl rfl rfl rfl ?_
      refine fs_getr (pc2 := 122) rfl rfl rfl (by assumption) rfl ?_
      refine fs_geti (pc2 := 125) rfl rfl rfl (by assumption) rfl ?_
      refine fs_iload_n (pc2 := 126) rfl rfl rfl rfl ?_
      refine fs_icmp_le (pc2 := 129) rfl rfl rfl (fun h126 => ?_) (fun h126 => ?_)
      · have k126 : (H1.2.2.2.2.2.2 ++ y.2.2).length ≤ 4 + num2 (H1.2.2.2.2.2.2 ++ y.2.2) 0 := c_le h126 eg1 e4
        rw [if_neg (by omega)] at hP
        refine fs_aload_n (pc2 := 136) rfl rfl rfl rfl ?_
        refine fs_getr (pc2 := 139) rfl rfl rfl (by assumption) rfl ?_
        refine fs_geti (pc2 := 142) rfl rfl rfl (by assumption) rfl ?_
        refine fs_iload_n (pc2 := 143) rfl rfl rfl rfl ?_
        refine fs_icmp_ne (pc2 := 146) rfl rfl rfl (fun h143 => ?_) (fun h143 => ?_)
        · have k143 : (H1.2.2.2.2.2.2 ++ y.2.2).length ≠ 4 + num2 (H1.2.2.2.2.2.2 ++ y.2.2) 0 := c_ne h143 eg1 e4
          refine fs_iconst (pc2 := 151) rfl rfl rfl ?_
          refine fs_iret rfl rfl (Or.inl rfl) ?_
          refine hP _ _ _ _ ⟨?_, rfl, rfl, k1, fun a ha => by rw [hf1 a (by omega) (by omega), hv1 a ha]⟩
          rw [decide_eq_false k143]
          rfl
        · have k143 : (H1.2.2.2.2.2.2 ++ y.2.2).length = 4 + num2 (H1.2.2.2.2.2.2 ++ y.2.2) 0 := c_eq h143 eg1 e4
          refine fs_iconst (pc2 := 147) rfl rfl rfl ?_
          refine fs_goto rfl rfl ?_
          refine fs_iret rfl rfl (Or.inr rfl) ?_
          refine hP _ _ _ _ ⟨?_, rfl, rfl, k1, fun a ha => by rw [hf1 a (by omega) (by omega), hv1 a ha]⟩
          rw [decide_eq_true k143]
          rfl
      · have k126 : 4 + num2 (H1.2.2.2.2.2.2 ++ y.2.2) 0 < (H1.2.2.2.2.2.2 ++ y.2.2).length := c_nle h126 eg1 e4
        rw [if_pos k126] at hP
        refine fs_aload_n (pc2 := 130) rfl rfl rfl rfl ?_
        refine fs_callv (pc2 := 133) rfl rfl rfl rfl ⟨rfl, rfl⟩ (Nat.le_of_ble_eq_true rfl) (Nat.le_of_ble_eq_true rfl) (Nat.le_of_ble_eq_true rfl) (fs_rcv rfl (by assumption)) (e_dropGathered k1) (fun v9 sh9 V9 n9 hp9 => ?_)
        obtain ⟨ea9, eb9, ec9, k2, hf2x⟩ := hp9
        cases ea9
        obtain rfl := eb9.symm
        obtain rfl := ec9.symm
        have hf2 : ∀ a, (a < hb ∨ hb + 184 ≤ a) → V9 a = _ := fun a ha => hf2x a (by omega) (by omega)
        refine fs_iconst (pc2 := 134) rfl rfl rfl ?_
        refine fs_iret rfl rfl (Or.inl rfl) ?_
        exact hP _ _ _ _ ⟨rfl, rfl, rfl, k2, fun a ha => by rw [hf2 a ha, hf1 a (by omega) (by omega), hv1 a ha]⟩
    · have k102 : (H1.2.2.2.2.2.2 ++ y.2.2).length < 4 := c_lt h102 eg1 rfl
      rw [if_pos k102] at hP
      refine fs_iconst (pc2 := 106) rfl rfl rfl ?_
      refine fs_iret rfl rfl (Or.inl rfl) ?_
      exact hP _ _ _ _ ⟨rfl, rfl, rfl, k1, fun a ha => by rw [hf1 a (by omega) (by omega), hv1 a ha]⟩
  cases hmk : y.1 with
  | true =>
    by_cases hG0 : H.2.2.2.2.2.2 = []
    · have lG0 : H.2.2.2.2.2.2.length = 0 := by rw [hG0]; rfl
      refine fs_aload_n (pc2 := 1) rfl rfl rfl rfl ?_
      refine fs_geti (pc2 := 4) rfl rfl rfl (by assumption) rfl ?_
      refine fs_if_eq (pc2 := 7) rfl rfl rfl (fun h4 => ?_) (fun h4 => ?_)
      · rw [pm, hmk] at h4
        exact absurd h4 (by decide)
      · refine fs_aload_n (pc2 := 8) rfl rfl rfl rfl ?_
        refine fs_getr (pc2 := 11) rfl rfl rfl (by assumption) rfl ?_
        refine fs_geti (pc2 := 14) rfl rfl rfl (by assumption) rfl ?_
        refine fs_if_le (pc2 := 17) rfl rfl rfl (fun h14 => ?_) (fun h14 => ?_)
        · refine fs_aload_n (pc2 := 22) rfl rfl rfl rfl ?_
          refine fs_geti (pc2 := 25) rfl rfl rfl (by assumption) rfl ?_
          refine fs_if_ne (pc2 := 28) rfl rfl rfl (fun h25 => ?_) (fun h25 => ?_)
          · refine fs_iconst (pc2 := 43) rfl rfl rfl ?_
            refine fs_istore_n (pc2 := 44) rfl rfl rfl (Nat.le_of_ble_eq_true rfl) ?_
            refine fs_iload_n (pc2 := 45) rfl rfl rfl rfl ?_
            refine fs_if_ne (pc2 := 48) rfl rfl rfl (fun h45 => ?_) (fun h45 => ?_)
            · exact absurd rfl h45
            · refine fs_aload_n (pc2 := 49) rfl rfl rfl rfl ?_
              refine fs_getr (pc2 := 52) rfl rfl rfl (by assumption) rfl ?_
              refine fs_geti (pc2 := 55) rfl rfl rfl (by assumption) rfl ?_
              refine fs_aload_n (pc2 := 56) rfl rfl rfl rfl ?_
              refine fs_getr (pc2 := 59) rfl rfl rfl (by assumption) rfl ?_
              refine fs_geti (pc2 := 62) rfl rfl rfl (by assumption) rfl ?_
              refine fs_iadd (pc2 := 63) rfl rfl rfl ?_
              refine fs_sipush (pc2 := 66) rfl rfl rfl ?_
              refine fs_icmp_le (pc2 := 69) rfl rfl rfl (fun h66 => ?_) (fun h66 => ?_)
              · exact j75 V _ _ hH (fun _ _ => rfl) hpk (by omega) (by unfold ho_gath; rw [if_pos hmk, if_pos hG0])
              · have := c_nle (a := H.2.2.2.2.2.2.length + y.2.2.length) (b := 128) h66 (by rw [eG, ey, nI_add]) rfl
                omega
          · rw [pm, hmk] at h25
            exact absurd h25 (by decide)
        · have := c_nle (b := 0) h14 eG rfl
          omega
    · have lG0 : 0 < H.2.2.2.2.2.2.length := List.length_pos_iff.mpr hG0
      refine fs_aload_n (pc2 := 1) rfl rfl rfl rfl ?_
      refine fs_geti (pc2 := 4) rfl rfl rfl (by assumption) rfl ?_
      refine fs_if_eq (pc2 := 7) rfl rfl rfl (fun h4 => ?_) (fun h4 => ?_)
      · rw [pm, hmk] at h4
        exact absurd h4 (by decide)
      · refine fs_aload_n (pc2 := 8) rfl rfl rfl rfl ?_
        refine fs_getr (pc2 := 11) rfl rfl rfl (by assumption) rfl ?_
        refine fs_geti (pc2 := 14) rfl rfl rfl (by assumption) rfl ?_
        refine fs_if_le (pc2 := 17) rfl rfl rfl (fun h14 => ?_) (fun h14 => ?_)
        · have := c_le (b := 0) h14 eG rfl
          omega
        · refine fs_aload_n (pc2 := 18) rfl rfl rfl rfl ?_
          refine fs_callv (pc2 := 21) rfl rfl rfl rfl ⟨rfl, rfl⟩ (Nat.le_of_ble_eq_true rfl) (Nat.le_of_ble_eq_true rfl) (Nat.le_of_ble_eq_true rfl) (fs_rcv rfl (by assumption)) (e_dropGathered hH) (fun v9 sh9 V9 n9 hp9 => ?_)
          obtain ⟨ea9, eb9, ec9, k1, hfd⟩ := hp9
          cases ea9
          obtain rfl := eb9.symm
          obtain rfl := ec9.symm
          have hf1 : ∀ a, (a < hb ∨ hb + 184 ≤ a) → V9 a = V a := fun a ha => hfd a (by omega) (by omega)
          have pk1 : Pk sh V9 p y := hpk.kept (hfd p (by omega) (by omega)) (hfd _ (by omega) (by omega)) (hfd _ (by omega) (by omega))
          have eG1 : V9 (hb + 182) 1 = nI 0 := k1.2.2.2.2.2.2.1.2.2.2.2.1
          obtain ⟨q0, qm, qs, qr⟩ := id pk1
          obtain ⟨q1, q2⟩ := id qr.1
          have ey1 : V9 (p + 1) 1 = nI y.2.2.length := qr.2.2.2.2.1
          refine fs_aload_n (pc2 := 22) rfl rfl rfl rfl ?_
          refine fs_geti (pc2 := 25) rfl rfl rfl (by assumption) rfl ?_
          refine fs_if_ne (pc2 := 28) rfl rfl rfl (fun h25 => ?_) (fun h25 => ?_)
          · refine fs_iconst (pc2 := 43) rfl rfl rfl ?_
            refine fs_istore_n (pc2 := 44) rfl rfl rfl (Nat.le_of_ble_eq_true rfl) ?_
            refine fs_iload_n (pc2 := 45) rfl rfl rfl rfl ?_
            refine fs_if_ne (pc2 := 48) rfl rfl rfl (fun h45 => ?_) (fun h45 => ?_)
            · exact absurd rfl h45
            · refine fs_aload_n (pc2 := 49) rfl rfl rfl rfl ?_
              refine fs_getr (pc2 := 52) rfl rfl rfl (by assumption) rfl ?_
              refine fs_geti (pc2 := 55) rfl rfl rfl (by assumption) rfl ?_
              refine fs_aload_n (pc2 := 56) rfl rfl rfl rfl ?_
              refine fs_getr (pc2 := 59) rfl rfl rfl (by assumption) rfl ?_
              refine fs_geti (pc2 := 62) rfl rfl rfl (by assumption) rfl ?_
              refine fs_iadd (pc2 := 63) rfl rfl rfl ?_
              refine fs_sipush (pc2 := 66) rfl rfl rfl ?_
              refine fs_icmp_le (pc2 := 69) rfl rfl rfl (fun h66 => ?_) (fun h66 => ?_)
              · exact j75 V9 _ _ k1 hf1 pk1 (by show 0 + _ ≤ 128; omega) (by unfold ho_gath; rw [if_pos hmk, if_neg hG0])
              · have := c_nle (a := 0 + y.2.2.length) (b := 128) h66 (by rw [eG1, ey1, nI_add]) rfl
                omega
          · rw [qm, hmk] at h25
            exact absurd h25 (by decide)
  | false =>
    by_cases hG0 : H.2.2.2.2.2.2 = []
    · have lG0 : H.2.2.2.2.2.2.length = 0 := by rw [hG0]; rfl
      refine fs_aload_n (pc2 := 1) rfl rfl rfl rfl ?_
      refine fs_geti (pc2 := 4) rfl rfl rfl (by assumption) rfl ?_
      refine fs_if_eq (pc2 := 7) rfl rfl rfl (fun h4 => ?_) (fun h4 => ?_)
      · refine fs_aload_n (pc2 := 22) rfl rfl rfl rfl ?_
        refine fs_geti (pc2 := 25) rfl rfl rfl (by assumption) rfl ?_
        refine fs_if_ne (pc2 := 28) rfl rfl rfl (fun h25 => ?_) (fun h25 => ?_)
        · rw [pm, hmk] at h25
          exact absurd rfl h25
        · refine fs_aload_n (pc2 := 29) rfl rfl rfl rfl ?_
          refine fs_getr (pc2 := 32) rfl rfl rfl (by assumption) rfl ?_
          refine fs_geti (pc2 := 35) rfl rfl rfl (by assumption) rfl ?_
          refine fs_if_ne (pc2 := 38) rfl rfl rfl (fun h35 => ?_) (fun h35 => ?_)
          · exact absurd (by rw [eG, lG0]; rfl) h35
          · refine fs_iconst (pc2 := 39) rfl rfl rfl ?_
            refine fs_goto rfl rfl ?_
            refine fs_istore_n (pc2 := 44) rfl rfl rfl (Nat.le_of_ble_eq_true rfl) ?_
            refine fs_iload_n (pc2 := 45) rfl rfl rfl rfl ?_
            refine fs_if_ne (pc2 := 48) rfl rfl rfl (fun h45 => ?_) (fun h45 => ?_)
            · refine fs_aload_n (pc2 := 70) rfl rfl rfl rfl ?_
              refine fs_callv (pc2 := 73) rfl rfl rfl rfl ⟨rfl, rfl⟩ (Nat.le_of_ble_eq_true rfl) (Nat.le_of_ble_eq_true rfl) (Nat.le_of_ble_eq_true rfl) (fs_rcv rfl (by assumption)) (e_dropGathered hH) (fun v9 sh9 V9 n9 hp9 => ?_)
              obtain ⟨ea9, eb9, ec9, k1, hfd⟩ := hp9
              cases ea9
              obtain rfl := eb9.symm
              obtain rfl := ec9.symm
              have hf1 : ∀ a, (a < hb ∨ hb + 184 ≤ a) → V9 a = V a := fun a ha => hfd a (by omega) (by omega)
              refine fs_iconst (pc2 := 74) rfl rfl rfl ?_
              refine fs_iret rfl rfl (Or.inl rfl) ?_
              have er : ho_gath H y.1 y.2.2 = (false, ho_drop H) := by unfold ho_gath; rw [if_neg (by rw [hmk]; decide), if_pos hG0]
              rw [er] at hP
              exact hP _ _ _ _ ⟨rfl, rfl, rfl, k1, hf1⟩
            · exact absurd h45 (by decide)
      · rw [pm, hmk] at h4
        exact absurd rfl h4
    · have lG0 : 0 < H.2.2.2.2.2.2.length := List.length_pos_iff.mpr hG0
      refine fs_aload_n (pc2 := 1) rfl rfl rfl rfl ?_
      refine fs_geti (pc2 := 4) rfl rfl rfl (by assumption) rfl ?_
      refine fs_if_eq (pc2 := 7) rfl rfl rfl (fun h4 => ?_) (fun h4 => ?_)
      · refine fs_aload_n (pc2 := 22) rfl rfl rfl rfl ?_
        refine fs_geti (pc2 := 25) rfl rfl rfl (by assumption) rfl ?_
        refine fs_if_ne (pc2 := 28) rfl rfl rfl (fun h25 => ?_) (fun h25 => ?_)
        · rw [pm, hmk] at h25
          exact absurd rfl h25
        · refine fs_aload_n (pc2 := 29) rfl rfl rfl rfl ?_
          refine fs_getr (pc2 := 32) rfl rfl rfl (by assumption) rfl ?_
          refine fs_geti (pc2 := 35) rfl rfl rfl (by assumption) rfl ?_
          refine fs_if_ne (pc2 := 38) rfl rfl rfl (fun h35 => ?_) (fun h35 => ?_)
          · refine fs_iconst (pc2 := 43) rfl rfl rfl ?_
            refine fs_istore_n (pc2 := 44) rfl rfl rfl (Nat.le_of_ble_eq_true rfl) ?_
            refine fs_iload_n (pc2 := 45) rfl rfl rfl rfl ?_
            refine fs_if_ne (pc2 := 48) rfl rfl rfl (fun h45 => ?_) (fun h45 => ?_)
            · exact absurd rfl h45
            · refine fs_aload_n (pc2 := 49) rfl rfl rfl rfl ?_
              refine fs_getr (pc2 := 52) rfl rfl rfl (by assumption) rfl ?_
              refine fs_geti (pc2 := 55) rfl rfl rfl (by assumption) rfl ?_
              refine fs_aload_n (pc2 := 56) rfl rfl rfl rfl ?_
              refine fs_getr (pc2 := 59) rfl rfl rfl (by assumption) rfl ?_
              refine fs_geti (pc2 := 62) rfl rfl rfl (by assumption) rfl ?_
              refine fs_iadd (pc2 := 63) rfl rfl rfl ?_
              refine fs_sipush (pc2 := 66) rfl rfl rfl ?_
              refine fs_icmp_le (pc2 := 69) rfl rfl rfl (fun h66 => ?_) (fun h66 => ?_)
              · have k66 : H.2.2.2.2.2.2.length + y.2.2.length ≤ 128 := c_le h66 (by rw [eG, ey, nI_add]) rfl
                exact j75 V _ _ hH (fun _ _ => rfl) hpk k66 (by unfold ho_gath; rw [if_neg (by rw [hmk]; decide), if_neg hG0, if_neg (by omega)])
              · have k66 : 128 < H.2.2.2.2.2.2.length + y.2.2.length := c_nle h66 (by rw [eG, ey, nI_add]) rfl
                refine fs_aload_n (pc2 := 70) rfl rfl rfl rfl ?_
                refine fs_callv (pc2 := 73) rfl rfl rfl rfl ⟨rfl, rfl⟩ (Nat.le_of_ble_eq_true rfl) (Nat.le_of_ble_eq_true rfl) (Nat.le_of_ble_eq_true rfl) (fs_rcv rfl (by assumption)) (e_dropGathered hH) (fun v9 sh9 V9 n9 hp9 => ?_)
                obtain ⟨ea9, eb9, ec9, k1, hfd⟩ := hp9
                cases ea9
                obtain rfl := eb9.symm
                obtain rfl := ec9.symm
                have hf1 : ∀ a, (a < hb ∨ hb + 184 ≤ a) → V9 a = V a := fun a ha => hfd a (by omega) (by omega)
                refine fs_iconst (pc2 := 74) rfl rfl rfl ?_
                refine fs_iret rfl rfl (Or.inl rfl) ?_
                have er : ho_gath H y.1 y.2.2 = (false, ho_drop H) := by unfold ho_gath; rw [if_neg (by rw [hmk]; decide), if_neg hG0, if_pos k66]
                rw [er] at hP
                exact hP _ _ _ _ ⟨rfl, rfl, rfl, k1, hf1⟩
          · have := c_eq (b := 0) h35 eG rfl
            omega
      · rw [pm, hmk] at h4
        exact absurd rfl h4
end GATHER
