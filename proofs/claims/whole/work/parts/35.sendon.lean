section SENDON
variable {cy : Nat → ClassId} {z0 : Nat} {ext : Nat → Nat → List Value → ev_H → Nat → ev_P → Prop} {d : Nat} {sh : fl_S} {V : fl_V} {n K a0 hb e : Nat} {rs : List Nat} {H : Ho}
variable {w2 h2 : Nat} {ps : List Pkt}
set_option maxRecDepth 100000 in
set_option maxHeartbeats 4000000 in
theorem e_sendOn_loop (hA : AlOK cy z0 a0 ext) (hd1 : w2 + 98 ≤ hb ∨ hb + 184 ≤ w2) (hd2 : w2 + 98 ≤ K) (hd3 : a0 < w2) {Ret : ev_P} : ∀ (f : Nat), f < 100 → ∀ (sh : fl_S) (V : fl_V) (rs : List Nat) (H : Ho) (h2 : Nat) (ps : List Pkt), Host sh V n K a0 hb e rs H → SI H → Way sh V w2 h2 ps → (∀ (v : Option Value) (sh' : fl_S) (V' : fl_V) (n' : Nat), (fun v sh' V' n' => v = none ∧ n' = n ∧ ∃ rs' h', Host sh' V' n K a0 hb e rs' (ho_send f H ps).1 ∧ Way sh' V' w2 h' (ho_send f H ps).2 ∧ (∀ a, (a < hb ∨ hb + 184 ≤ a) → (a < w2 ∨ w2 + 98 ≤ a) → V' a = V a) ∧ ∀ a, (a ≠ e ∨ a = a0) → sh' a = sh a) v sh' V' n' → Ret v (fl_f cy z0 sh' V') (z0 + n')) → fl_R cy z0 (ev_M cy ext (d + 10)) 1 0 0 3 none kc_X1_sendOn Ret 5 [(0, .ref (z0 + hb)), (1, .ref (z0 + w2)), (2, .int (nI f))] [] sh V n 0 0 := by
  intro f
  induction f with
  | zero =>
    intro hf sh V rs H h2 ps hH hS hW hP
    refine fs_iload_n (pc2 := 6) rfl rfl rfl rfl ?_
    refine fs_if_le (pc2 := 9) rfl rfl rfl (fun h6 => ?_) (fun h6 => ?_)
    · refine fs_ret rfl rfl ?_
      exact hP _ _ _ _ ⟨rfl, rfl, rs, h2, hH, hW, fun _ _ _ => rfl, fun _ _ => rfl⟩
    · exact absurd (nI_0 ▸ Int32.le_refl _) h6
  | succ f ih =>
    intro hf sh V rs H h2 ps hH hS hW hP
    obtain ⟨⟨f1, ⟨gc, f2, f3⟩, f4, f5, f6⟩, HC, HS, ⟨wh, HW⟩, HQ, HB, HG, HI⟩ := id hH
    unfold isHo at f1
    obtain ⟨b1, b2⟩ := id HB.1
    obtain ⟨t1, t2⟩ := id HG.1
    have al0 := HQ.1
    unfold eAl at al0
    have lnG : H.2.2.2.2.2.2.length ≤ 128 := HG.2.2.1
    have lnB : H.2.2.2.2.2.1.length ≤ 128 := HB.2.2.1
    have eG : V (hb + 182) 1 = nI H.2.2.2.2.2.2.length := HG.2.2.2.2.1
    have eB : V (hb + 180) 1 = nI H.2.2.2.2.2.1.length := HB.2.2.2.2.1
    have y1 := hW.1.1
    unfold ho_send at hP
    refine fs_iload_n (pc2 := 6) rfl rfl rfl rfl ?_
    refine fs_if_le (pc2 := 9) rfl rfl rfl (fun h6 => ?_) (fun h6 => ?_)
    · exact absurd h6 (nI_nle (by omega) (by omega))
    · refine fs_aload_n (pc2 := 10) rfl rfl rfl rfl ?_
      refine fs_iconst (pc2 := 11) rfl rfl rfl ?_
      refine fs_callv (pc2 := 14) rfl rfl rfl rfl ⟨rfl, rfl⟩ (Nat.le_of_ble_eq_true rfl) (Nat.le_of_ble_eq_true rfl) (Nat.le_of_ble_eq_true rfl) (fs_rcv rfl (by assumption)) (e_Way_hasRoomFor (k := 1) (by decide) hW) (fun v9 sh9 V9 n9 hp9 => ?_)
      obtain ⟨ea9, eb9, ec9, hv9⟩ := hp9
      cases ea9
      obtain rfl := eb9.symm
      obtain rfl := ec9.symm
      cases hv9
      refine fs_if_eq (pc2 := 17) rfl rfl rfl (fun h14 => ?_) (fun h14 => ?_)
      · have k14 : 32 ≤ ps.length := by have := of_decide_eq_false (bI_0.mp h14); omega
        rw [if_pos k14] at hP
        refine fs_ret rfl rfl ?_
        exact hP _ _ _ _ ⟨rfl, rfl, rs, h2, hH, hW, fun _ _ _ => rfl, fun _ _ => rfl⟩
      · have k14 : ps.length < 32 := by
          by_cases q : ps.length + 1 ≤ 32
          · omega
          · rw [decide_eq_false q] at h14; exact absurd rfl h14
        rw [if_neg (by omega)] at hP
        refine fs_aload_n (pc2 := 18) rfl rfl rfl rfl ?_
        refine fs_callv (pc2 := 21) rfl rfl rfl rfl ⟨rfl, rfl⟩ (Nat.le_of_ble_eq_true rfl) (Nat.le_of_ble_eq_true rfl) (Nat.le_of_ble_eq_true rfl) (fs_rcv rfl (by assumption)) (e_hasUnit hA hS hH) (fun v9 sh9 V9 n9 hp9 => ?_)
        obtain ⟨ea9, eb9, rs1, k1, fv, fs⟩ := hp9
        cases ea9
        obtain rfl := eb9.symm
        have hEe : e = a0 ∨ K ≤ e := HQ.2.2.1
        have W1 : Way sh9 V9 w2 h2 ps := (hW.shape (fun a a1 a2 => fs a (by omega))).kept (fun a a1 a2 => fv a (by omega))
        have y1x := W1.1.1
        have S1 := hS.unit
        obtain ⟨G, hG⟩ : ∃ G, G = (ho_unit H).2 := ⟨_, rfl⟩
        rw [← hG] at k1 S1 hP
        obtain ⟨⟨f1x, ⟨gcx, f2x, f3x⟩, f4x, f5x, f6x⟩, HCx, HSx, ⟨whx, HWx⟩, HQx, HBx, HGx, HIx⟩ := id k1
        unfold isHo at f1x
        obtain ⟨b1x, b2x⟩ := id HBx.1
        obtain ⟨t1x, t2x⟩ := id HGx.1
        have al0x := HQx.1
        unfold eAl at al0x
        have e7 : V9 hb 7 = nI (G.1 7) := HIx 7 (by omega)
        have lnB1 : G.2.2.2.2.2.1.length ≤ 128 := HBx.2.2.1
        have l7 := S1.2.2
        refine fs_if_ne (pc2 := 24) rfl rfl rfl (fun h21 => ?_) (fun h21 => ?_)
        · have k21 : (ho_unit H).1 = true := by
            cases hb2 : (ho_unit H).1 with
            | true => rfl
            | false => rw [hb2] at h21; exact absurd rfl h21
          rw [if_neg (by rw [k21]; decide)] at hP
          refine fs_aload_n (pc2 := 26) rfl rfl rfl rfl ?_
          refine fs_aload_n (pc2 := 27) rfl rfl rfl rfl ?_
          refine fs_getr (pc2 := 30) rfl rfl rfl (by assumption) rfl ?_
          refine fs_aload_n (pc2 := 31) rfl rfl rfl rfl ?_
          refine fs_geti (pc2 := 34) rfl rfl rfl (by assumption) rfl ?_
          refine fs_iconst (pc2 := 35) rfl rfl rfl ?_
          refine fs_callv (pc2 := 38) rfl rfl rfl rfl ⟨rfl, rfl⟩ (Nat.le_of_ble_eq_true rfl) (Nat.le_of_ble_eq_true rfl) (Nat.le_of_ble_eq_true rfl) (fs_rcv rfl (by assumption)) (by rw [e7]; exact e_Way_put (sn := true) W1 HBx (by omega) k14 (by omega)) (fun v9 sh9 V9 n9 hp9 => ?_)
          obtain ⟨ea9, eb9, ec9, W2, fw⟩ := hp9
          cases ea9
          obtain rfl := eb9.symm
          obtain rfl := ec9.symm
          have k2 := k1.kept (V' := V9) (fun a ha => fw a (by omega))
          have e7b : V9 hb 7 + 27 = nI (G.1 7 + 27) := by rw [fw hb (by omega), e7]; exact nI_add _ 27
          have eBb : V9 (hb + 180) 1 = nI G.2.2.2.2.2.1.length := k2.2.2.2.2.2.1.2.2.2.2.1
          have em : (if V9 (hb + 180) 1 < V9 hb 7 + 27 then V9 (hb + 180) 1 else V9 hb 7 + 27) = nI (min (G.1 7 + 27) G.2.2.2.2.2.1.length) := by rw [e7b, eBb]; exact nI_min (by omega) (by omega)
          refine fs_aload_n (pc2 := 39) rfl rfl rfl rfl ?_
          refine fs_aload_n (pc2 := 40) rfl rfl rfl rfl ?_
          refine fs_geti (pc2 := 43) rfl rfl rfl (by assumption) rfl ?_
          refine fs_bipush (pc2 := 45) rfl rfl rfl ?_
          refine fs_iadd (pc2 := 46) rfl rfl rfl ?_
          refine fs_aload_n (pc2 := 47) rfl rfl rfl rfl ?_
          refine fs_getr (pc2 := 50) rfl rfl rfl (by assumption) rfl ?_
          refine fs_geti (pc2 := 53) rfl rfl rfl (by assumption) rfl ?_
          refine fs_min (pc2 := 56) rfl rfl rfl rfl (Nat.le_of_ble_eq_true rfl) ?_
          refine fs_puti (pc2 := 59) rfl rfl rfl (by assumption) rfl True.intro ?_
          refine fs_iinc (pc2 := 62) rfl rfl rfl (Nat.le_of_ble_eq_true rfl) rfl ?_
          refine fs_goto rfl rfl ?_
          rw [em, pk_m1]
          have k3 := k2.putN 7 (min (G.1 7 + 27) G.2.2.2.2.2.1.length)
          refine ih (by omega) _ _ _ _ _ _ k3 S1.put (W2.kept (fun a a1 a2 => up2_o (by omega))) (fun v sh' V' n' hq => hP v sh' V' n' ?_)
          obtain ⟨q1, q2, rs2, h3, q3, q4, q5, q6⟩ := hq
          refine ⟨q1, q2, rs2, h3, q3, q4, fun a a1 a2 => ?_, fun a ha => by rw [q6 a ha, fs a ha]⟩
          rw [q5 a a1 a2, up2_o (by omega), fw a a2, fv a a1]
        · have k21 := bI_0.mp h21
          rw [if_pos k21] at hP
          refine fs_ret rfl rfl ?_
          exact hP _ _ _ _ ⟨rfl, rfl, rs1, h2, k1, W1, fun a a1 _ => fv a a1, fs⟩
set_option maxRecDepth 100000 in
set_option maxHeartbeats 4000000 in
theorem e_sendOn (hA : AlOK cy z0 a0 ext) (hd1 : w2 + 98 ≤ hb ∨ hb + 184 ≤ w2) (hd2 : w2 + 98 ≤ K) (hd3 : a0 < w2) (hS : SI H) (hW : Way sh V w2 h2 ps) (h4 : sents ps ≤ 4) (hH : Host sh V n K a0 hb e rs H) : fl_M cy z0 ext (d + 11) m_X1_sendOn [.ref (z0 + hb), .ref (z0 + w2)] sh V n (fun v sh' V' n' => v = none ∧ n' = n ∧ ∃ rs' h', Host sh' V' n K a0 hb e rs' (ho_send (4 - sents ps) H ps).1 ∧ Way sh' V' w2 h' (ho_send (4 - sents ps) H ps).2 ∧ (∀ a, (a < hb ∨ hb + 184 ≤ a) → (a < w2 ∨ w2 + 98 ≤ a) → V' a = V a) ∧ ∀ a, (a ≠ e ∨ a = a0) → sh' a = sh a) := by
  have y1 := hW.1.1
  have e4 : (4 : Int32) - nI (sents ps) = nI (4 - sents ps) := pk_sub (a := 4) h4
  refine fs_body rfl rfl (fun Ret hP => ?_)
  refine fs_aload_n (pc2 := 1) rfl rfl rfl rfl ?_
  refine fs_callv (pc2 := 4) rfl rfl rfl rfl ⟨rfl, rfl⟩ (Nat.le_of_ble_eq_true rfl) (Nat.le_of_ble_eq_true rfl) (Nat.le_of_ble_eq_true rfl) (fs_rcv rfl (by assumption)) (e_Way_freeBuffers hW) (fun v9 sh9 V9 n9 hp9 => ?_)
  obtain ⟨ea9, eb9, ec9, hv9⟩ := hp9
  cases ea9
  obtain rfl := eb9.symm
  obtain rfl := ec9.symm
  cases hv9
  rw [e4]
  refine fs_istore_n (pc2 := 5) rfl rfl rfl (Nat.le_of_ble_eq_true rfl) ?_
  exact e_sendOn_loop hA hd1 hd2 hd3 (4 - sents ps) (by omega) sh V rs H h2 ps hH hS hW hP
end SENDON
