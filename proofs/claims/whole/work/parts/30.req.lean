def ch_acc (y : Ch) (mt mp cr f fm fp fc : Nat) : Ch := ch_open (va_up (va_up (va_up y.1 3 mt) 4 mp) 5 cr, y.2.1, y.2.2.1, [], y.2.2.2.2) f fm fp fc
def ho_acc (H : Ho) (sid k : Nat) : Ho := hoQ (hoC H k (ch_acc (H.2.1 k) (H.2.2.1 0 (tl H 0)) (H.2.2.1 1 (tl H 0)) (H.2.2.1 2 (tl H 0)) (tl H 1) (tl H 2) (tl H 3) (tl H 4))) (H.2.2.2.2.1 ++ [[21, sid, 10, 0] ++ two (64 + k) ++ two (H.2.2.1 0 (tl H 0)) ++ two (H.2.2.1 1 (tl H 0)) ++ two (H.2.2.1 2 (tl H 0)) ++ two 0])
def ho_ref (H : Ho) (sid r : Nat) : Ho := hoQ H (H.2.2.2.2.1 ++ [[21, sid, 10, 0] ++ two 0 ++ two 0 ++ two 0 ++ two 0 ++ two r])
def ho_req (H : Ho) (sid : Nat) : Ho := match ho_closed H with
  | some k => if ho_judge H (tl H 0) (tl H 1) (tl H 2) (tl H 3) = 0 then ho_acc H sid k else ho_ref H sid (ho_judge H (tl H 0) (tl H 1) (tl H 2) (tl H 3))
  | none => ho_ref H sid (ho_judge H (tl H 0) (tl H 1) (tl H 2) (tl H 3))
theorem ho_judge_0 {H : Ho} {s f m p : Nat} (h : ho_judge H s f m p = 0) : (1 ≤ s ∧ s ≤ 9) ∧ ∃ k, ho_closed H = some k := by
  unfold ho_judge at h
  split at h
  · omega
  · next h1 =>
    split at h
    · omega
    · split at h
      · omega
      · split at h
        · omega
        · split at h
          · omega
          · next h2 =>
            refine ⟨?_, ?_⟩
            · have : ho_has H s = true := by simpa using h1
              have := of_decide_eq_true this
              omega
            · cases hc : ho_closed H with
              | none => rw [hc] at h2; simp at h2
              | some k => exact ⟨k, rfl⟩
section REQ
variable {cy : Nat → ClassId} {z0 : Nat} {ext : Nat → Nat → List Value → ev_H → Nat → ev_P → Prop} {d : Nat} {sh : fl_S} {V : fl_V} {n K a0 hb e : Nat} {rs : List Nat} {H : Ho}
theorem Fr.post {n' e' : Nat} {sh' : fl_S} {V' V2 : fl_V} (h : Fr hb a0 sh V n e sh' V' n' e') (hk : ∀ a, (a < hb ∨ hb + 184 ≤ a) → V2 a = V' a) : Fr hb a0 sh V n e sh' V2 n' e' := ⟨h.1, h.2.1, fun a a1 a2 => by rw [hk a a2]; exact h.2.2.1 a a1 a2, h.2.2.2⟩
set_option maxRecDepth 100000 in
set_option maxHeartbeats 4000000 in
theorem e_onRequest_acc (hA : AlOK cy z0 a0 ext) (hlen : H.2.2.2.2.1.length < 512) {sid : Nat} (hid : sid < 256) {k : Nat} (hk4 : k < 4) (hcl : ho_closed H = some k) (hj : ho_judge H (tl H 0) (tl H 1) (tl H 2) (tl H 3) = 0) (hH : Host sh V n K a0 hb e rs H) : fl_M cy z0 ext (d + 10) m_X1_onRequest [.ref (z0 + hb), .int (nI sid)] sh V n (fun v sh' V' n' => v = none ∧ ∃ e' rs', Host sh' V' n' K a0 hb e' rs' (ho_acc H sid k) ∧ Fr hb a0 sh V n e sh' V' n' e') := by
  obtain ⟨⟨f1, ⟨gc, f2, f3⟩, f4, f5, f6⟩, HC, HS, ⟨wh, HW⟩, HQ, HB, HG, HI⟩ := id hH
  unfold isHo at f1
  obtain ⟨b1, b2⟩ := id HB.1
  obtain ⟨t1, t2⟩ := id HG.1
  have al0 := HQ.1
  unfold eAl at al0
  have lnG : H.2.2.2.2.2.2.length ≤ 128 := HG.2.2.1
  have lnB : H.2.2.2.2.2.1.length ≤ 128 := HB.2.2.1
  have eG : V (hb + 182) 1 = nI H.2.2.2.2.2.2.length := HG.2.2.2.2.1
  have eB : V (hb + 180) 1 = nI H.2.2.2.2.2.1.length := HB.2.2.2.2.1
  have hlt := hH.rows
  have t0 := tl_lt hH 0
  have t1b := tl_lt hH 1
  have t2b := tl_lt hH 2
  have t3 := tl_lt hH 3
  have t4 := tl_lt hH 4
  have jl := ho_judge_lt H (tl H 0) (tl H 1) (tl H 2) (tl H 3)
  have n0 := (HC k hk4).2
  obtain ⟨⟨s1, s9⟩, _⟩ := ho_judge_0 hj
  have i1 : vp_in (nI (tl H 0)) 10 := vp_in_nI (by omega) (by decide)
  refine fs_body rfl rfl (fun Ret hP => ?_)
  refine fs_aload_n (pc2 := 1) rfl rfl rfl rfl ?_
  refine fs_iconst (pc2 := 2) rfl rfl rfl ?_
  refine fs_callv (pc2 := 5) rfl rfl rfl rfl ⟨rfl, rfl⟩ (Nat.le_of_ble_eq_true rfl) (Nat.le_of_ble_eq_true rfl) (Nat.le_of_ble_eq_true rfl) (fs_rcv rfl (by assumption)) (e_tl hH (k := 0) (t := tl H 0) (by decide) rfl) (fun v9 sh9 V9 n9 hp9 => ?_)
  obtain ⟨ea9, eb9, ec9, hv9⟩ := hp9
  cases ea9
  obtain rfl := eb9.symm
  obtain rfl := ec9.symm
  cases hv9
  refine fs_istore_n (pc2 := 6) rfl rfl rfl (Nat.le_of_ble_eq_true rfl) ?_
  refine fs_aload_n (pc2 := 7) rfl rfl rfl rfl ?_
  refine fs_iload_n (pc2 := 8) rfl rfl rfl rfl ?_
  refine fs_aload_n (pc2 := 9) rfl rfl rfl rfl ?_
  refine fs_iconst (pc2 := 10) rfl rfl rfl ?_
  refine fs_callv (pc2 := 13) rfl rfl rfl rfl ⟨rfl, rfl⟩ (Nat.le_of_ble_eq_true rfl) (Nat.le_of_ble_eq_true rfl) (Nat.le_of_ble_eq_true rfl) (fs_rcv rfl (by assumption)) (e_tl hH (k := 1) (t := tl H 1) (by decide) rfl) (fun v9 sh9 V9 n9 hp9 => ?_)
  obtain ⟨ea9, eb9, ec9, hv9⟩ := hp9
  cases ea9
  obtain rfl := eb9.symm
  obtain rfl := ec9.symm
  cases hv9
  refine fs_aload_n (pc2 := 14) rfl rfl rfl rfl ?_
  refine fs_iconst (pc2 := 15) rfl rfl rfl ?_
  refine fs_callv (pc2 := 18) rfl rfl rfl rfl ⟨rfl, rfl⟩ (Nat.le_of_ble_eq_true rfl) (Nat.le_of_ble_eq_true rfl) (Nat.le_of_ble_eq_true rfl) (fs_rcv rfl (by assumption)) (e_tl hH (k := 2) (t := tl H 2) (by decide) rfl) (fun v9 sh9 V9 n9 hp9 => ?_)
  obtain ⟨ea9, eb9, ec9, hv9⟩ := hp9
  cases ea9
  obtain rfl := eb9.symm
  obtain rfl := ec9.symm
  cases hv9
  refine fs_aload_n (pc2 := 19) rfl rfl rfl rfl ?_
  refine fs_iconst (pc2 := 20) rfl rfl rfl ?_
  refine fs_callv (pc2 := 23) rfl rfl rfl rfl ⟨rfl, rfl⟩ (Nat.le_of_ble_eq_true rfl) (Nat.le_of_ble_eq_true rfl) (Nat.le_of_ble_eq_true rfl) (fs_rcv rfl (by assumption)) (e_tl hH (k := 3) (t := tl H 3) (by decide) rfl) (fun v9 sh9 V9 n9 hp9 => ?_)
  obtain ⟨ea9, eb9, ec9, hv9⟩ := hp9
  cases ea9
  obtain rfl := eb9.symm
  obtain rfl := ec9.symm
  cases hv9
  refine fs_callv (pc2 := 26) rfl rfl rfl rfl ⟨rfl, rfl⟩ (Nat.le_of_ble_eq_true rfl) (Nat.le_of_ble_eq_true rfl) (Nat.le_of_ble_eq_true rfl) (fs_rcv rfl (by assumption)) (e_judge hH t0 t1b t2b t3) (fun v9 sh9 V9 n9 hp9 => ?_)
  obtain ⟨ea9, eb9, ec9, hv9⟩ := hp9
  cases ea9
  obtain rfl := eb9.symm
  obtain rfl := ec9.symm
  cases hv9
  refine fs_istore_n (pc2 := 27) rfl rfl rfl (Nat.le_of_ble_eq_true rfl) ?_
  refine fs_aload_n (pc2 := 28) rfl rfl rfl rfl ?_
  refine fs_callv (pc2 := 31) rfl rfl rfl rfl ⟨rfl, rfl⟩ (Nat.le_of_ble_eq_true rfl) (Nat.le_of_ble_eq_true rfl) (Nat.le_of_ble_eq_true rfl) (fs_rcv rfl (by assumption)) (e_firstClosed hH) (fun v9 sh9 V9 n9 hp9 => ?_)
  obtain ⟨ea9, eb9, ec9, hv9⟩ := hp9
  cases ea9
  obtain rfl := eb9.symm
  obtain rfl := ec9.symm
  cases hv9
  rw [hcl]
  rw [show fl_r z0 (Option.map (fun j => hb + 2 + 19 * j) (some k)) = .ref (z0 + (hb + 2 + 19 * k)) from rfl]
  refine fs_astore (pc2 := 33) rfl rfl rfl (Nat.le_of_ble_eq_true rfl) ?_
  refine fs_aload_n (pc2 := 34) rfl rfl rfl rfl ?_
  refine fs_bipush (pc2 := 36) rfl rfl rfl ?_
  refine fs_iload_n (pc2 := 37) rfl rfl rfl rfl ?_
  refine fs_iconst (pc2 := 38) rfl rfl rfl ?_
  refine fs_callv (pc2 := 41) rfl rfl rfl rfl ⟨rfl, rfl⟩ (Nat.le_of_ble_eq_true rfl) (Nat.le_of_ble_eq_true rfl) (Nat.le_of_ble_eq_true rfl) (fs_rcv rfl (by assumption)) (e_addSignal (co := 21) (k := 5) hA (by decide) hid (by decide) hlen hH) (fun v9 sh9 V9 n9 hp9 => ?_)
  obtain ⟨ea9, e1, k0, frs⟩ := hp9
  cases ea9
  obtain ⟨z0a, z0b⟩ := id (k0.lastRow rfl).1.1
  obtain ⟨⟨f1x, ⟨gcx, f2x, f3x⟩, f4x, f5x, f6x⟩, HCx, HSx, ⟨whx, HWx⟩, HQx, HBx, HGx, HIx⟩ := id k0
  unfold isHo at f1x
  obtain ⟨b1x, b2x⟩ := id HBx.1
  obtain ⟨t1x, t2x⟩ := id HGx.1
  have al0x := HQx.1
  unfold eAl at al0x
  have cs0 := (k0.ch hk4).1
  unfold isChan at cs0
  have s78 := (HSx 0 (by omega)).1
  have s79 := (HSx 1 (by omega)).1
  have s80 := (HSx 2 (by omega)).1
  obtain ⟨v0, lv0⟩ := (HSx 0 (by omega)).2 (tl H 0) (by omega)
  obtain ⟨v1, lv1⟩ := (HSx 1 (by omega)).2 (tl H 0) (by omega)
  obtain ⟨v2, lv2⟩ := (HSx 2 (by omega)).2 (tl H 0) (by omega)
  refine fs_astore (pc2 := 43) rfl rfl rfl (Nat.le_of_ble_eq_true rfl) ?_
  refine fs_iload_n (pc2 := 44) rfl rfl rfl rfl ?_
  refine fs_if_ne (pc2 := 47) rfl rfl rfl (fun h44 => ?_) (fun h44 => ?_)
  · exact absurd (by rw [hj]; rfl) h44
  · refine fs_aload (pc2 := 49) rfl rfl rfl rfl ?_
    refine fs_ifnull (pc2 := 52) rfl rfl rfl ?_
    refine fs_aload (pc2 := 54) rfl rfl rfl rfl ?_
    refine fs_aload_n (pc2 := 55) rfl rfl rfl rfl ?_
    refine fs_getr (pc2 := 58) rfl rfl rfl (by assumption) rfl ?_
    refine fs_iload_n (pc2 := 59) rfl rfl rfl rfl ?_
    refine fs_iald (pc2 := 60) rfl rfl rfl (by assumption) i1 ?_
    refine fs_aload_n (pc2 := 61) rfl rfl rfl rfl ?_
    refine fs_getr (pc2 := 64) rfl rfl rfl (by assumption) rfl ?_
    refine fs_iload_n (pc2 := 65) rfl rfl rfl rfl ?_
    refine fs_iald (pc2 := 66) rfl rfl rfl (by assumption) i1 ?_
    refine fs_aload_n (pc2 := 67) rfl rfl rfl rfl ?_
    refine fs_getr (pc2 := 70) rfl rfl rfl (by assumption) rfl ?_
    refine fs_iload_n (pc2 := 71) rfl rfl rfl rfl ?_
    refine fs_iald (pc2 := 72) rfl rfl rfl (by assumption) i1 ?_
    refine fs_callv (pc2 := 75) rfl rfl rfl rfl ⟨rfl, rfl⟩ (Nat.le_of_ble_eq_true rfl) (Nat.le_of_ble_eq_true rfl) (Nat.le_of_ble_eq_true rfl) (fs_rcv rfl (by assumption)) (by rw [nI_clamp (by omega)]; rw [show V9 (hb + 78) (tl H 0) = nI (H.2.2.1 0 (tl H 0)) from v0, show V9 (hb + 79) (tl H 0) = nI (H.2.2.1 1 (tl H 0)) from v1, show V9 (hb + 80) (tl H 0) = nI (H.2.2.1 2 (tl H 0)) from v2]; exact e_Chan_setOwn lv0 lv1 lv2 (k0.ch hk4)) (fun v9 sh9 V9 n9 hp9 => ?_)
    obtain ⟨ea9, eb9, ec9, C1, hf1⟩ := hp9
    cases ea9
    obtain rfl := eb9.symm
    obtain rfl := ec9.symm
    have ka := k0.putC hk4 C1 (by simp [va_up, n0]) hf1
    refine fs_aload (pc2 := 77) rfl rfl rfl rfl ?_
    refine fs_aload_n (pc2 := 78) rfl rfl rfl rfl ?_
    refine fs_iconst (pc2 := 79) rfl rfl rfl ?_
    refine fs_callv (pc2 := 82) rfl rfl rfl rfl ⟨rfl, rfl⟩ (Nat.le_of_ble_eq_true rfl) (Nat.le_of_ble_eq_true rfl) (Nat.le_of_ble_eq_true rfl) (fs_rcv rfl (by assumption)) (e_tl ka (k := 1) (t := tl H 1) (by decide) rfl) (fun v9 sh9 V9 n9 hp9 => ?_)
    obtain ⟨ea9, eb9, ec9, hv9⟩ := hp9
    cases ea9
    obtain rfl := eb9.symm
    obtain rfl := ec9.symm
    cases hv9
    refine fs_aload_n (pc2 := 83) rfl rfl rfl rfl ?_
    refine fs_iconst (pc2 := 84) rfl rfl rfl ?_
    refine fs_callv (pc2 := 87) rfl rfl rfl rfl ⟨rfl, rfl⟩ (Nat.le_of_ble_eq_true rfl) (Nat.le_of_ble_eq_true rfl) (Nat.le_of_ble_eq_true rfl) (fs_rcv rfl (by assumption)) (e_tl ka (k := 2) (t := tl H 2) (by decide) rfl) (fun v9 sh9 V9 n9 hp9 => ?_)
    obtain ⟨ea9, eb9, ec9, hv9⟩ := hp9
    cases ea9
    obtain rfl := eb9.symm
    obtain rfl := ec9.symm
    cases hv9
    refine fs_aload_n (pc2 := 88) rfl rfl rfl rfl ?_
    refine fs_iconst (pc2 := 89) rfl rfl rfl ?_
    refine fs_callv (pc2 := 92) rfl rfl rfl rfl ⟨rfl, rfl⟩ (Nat.le_of_ble_eq_true rfl) (Nat.le_of_ble_eq_true rfl) (Nat.le_of_ble_eq_true rfl) (fs_rcv rfl (by assumption)) (e_tl ka (k := 3) (t := tl H 3) (by decide) rfl) (fun v9 sh9 V9 n9 hp9 => ?_)
    obtain ⟨ea9, eb9, ec9, hv9⟩ := hp9
    cases ea9
    obtain rfl := eb9.symm
    obtain rfl := ec9.symm
    cases hv9
    refine fs_aload_n (pc2 := 93) rfl rfl rfl rfl ?_
    refine fs_iconst (pc2 := 94) rfl rfl rfl ?_
    refine fs_callv (pc2 := 97) rfl rfl rfl rfl ⟨rfl, rfl⟩ (Nat.le_of_ble_eq_true rfl) (Nat.le_of_ble_eq_true rfl) (Nat.le_of_ble_eq_true rfl) (fs_rcv rfl (by assumption)) (e_tl ka (k := 4) (t := tl H 4) (by decide) rfl) (fun v9 sh9 V9 n9 hp9 => ?_)
    obtain ⟨ea9, eb9, ec9, hv9⟩ := hp9
    cases ea9
    obtain rfl := eb9.symm
    obtain rfl := ec9.symm
    cases hv9
    refine fs_callv (pc2 := 100) rfl rfl rfl rfl ⟨rfl, rfl⟩ (Nat.le_of_ble_eq_true rfl) (Nat.le_of_ble_eq_true rfl) (Nat.le_of_ble_eq_true rfl) (fs_rcv rfl (by assumption)) (e_Chan_open t1b t2b t3 t4 C1) (fun v9 sh9 V9 n9 hp9 => ?_)
    obtain ⟨ea9, eb9, ec9, C2, hf2⟩ := hp9
    cases ea9
    obtain rfl := eb9.symm
    obtain rfl := ec9.symm
    have kb : Host sh9 V9 n9 K a0 hb e1 (rs ++ [n]) (hoC (hoQ H (H.2.2.2.2.1 ++ [[21, sid, 10, 0]])) k (ch_acc (H.2.1 k) (H.2.2.1 0 (tl H 0)) (H.2.2.1 1 (tl H 0)) (H.2.2.1 2 (tl H 0)) (tl H 1) (tl H 2) (tl H 3) (tl H 4))) := by
      have q := ka.putC hk4 C2 (by simp [va_up, n0]) hf2
      simp only [hoC, va_up2] at q
      exact q
    have frb := frs.post (V2 := V9) (fun a ha => by rw [hf2 a (by omega), hf1 a (by omega)])
    obtain ⟨zb, zzb⟩ := id (kb.lastRow rfl).1.1
    refine fs_aload (pc2 := 102) rfl rfl rfl rfl ?_
    refine fs_aload (pc2 := 104) rfl rfl rfl rfl ?_
    refine fs_geti (pc2 := 107) rfl rfl rfl (by assumption) rfl ?_
    refine fs_callv (pc2 := 110) rfl rfl rfl rfl ⟨rfl, rfl⟩ (Nat.le_of_ble_eq_true rfl) (Nat.le_of_ble_eq_true rfl) (Nat.le_of_ble_eq_true rfl) (fs_rcv rfl (by assumption)) (by rw [show V9 (hb + 2 + 19 * k) 0 = nI (64 + k) from by rw [((kb.ch hk4).i 0 (by omega)).1]; show nI ((va_up H.2.1 k (ch_acc (H.2.1 k) (H.2.2.1 0 (tl H 0)) (H.2.2.1 1 (tl H 0)) (H.2.2.1 2 (tl H 0)) (tl H 1) (tl H 2) (tl H 3) (tl H 4)) k).1 0) = _; rw [va_up_self]; simp [ch_acc, ch_open, va_up, n0]]; exact e_Row_addNumber (by omega) (kb.lastRow rfl).1 (by simp [two])) (fun v9 sh9 V9 n9 hp9 => ?_)
    obtain ⟨ea9, eb9, ec9, rr0, ff0⟩ := hp9
    cases ea9
    obtain rfl := eb9.symm
    obtain rfl := ec9.symm
    have k1 := kb.last rfl hlt rr0 ff0
    have fr1 := frb.row (Nat.le_refl _) ff0
    obtain ⟨z1, zz1⟩ := id (k1.lastRow rfl).1.1
    have cs1 := (k1.ch hk4).1
    unfold isChan at cs1
    refine fs_aload (pc2 := 112) rfl rfl rfl rfl ?_
    refine fs_aload (pc2 := 114) rfl rfl rfl rfl ?_
    refine fs_geti (pc2 := 117) rfl rfl rfl (by assumption) rfl ?_
    refine fs_callv (pc2 := 120) rfl rfl rfl rfl ⟨rfl, rfl⟩ (Nat.le_of_ble_eq_true rfl) (Nat.le_of_ble_eq_true rfl) (Nat.le_of_ble_eq_true rfl) (fs_rcv rfl (by assumption)) (by rw [show V9 (hb + 2 + 19 * k) 3 = nI (H.2.2.1 0 (tl H 0)) from by rw [((k1.ch hk4).i 3 (by omega)).1]; show nI ((va_up H.2.1 k (ch_acc (H.2.1 k) (H.2.2.1 0 (tl H 0)) (H.2.2.1 1 (tl H 0)) (H.2.2.1 2 (tl H 0)) (tl H 1) (tl H 2) (tl H 3) (tl H 4)) k).1 3) = _; rw [va_up_self]; simp [ch_acc, ch_open, va_up, n0]]; exact e_Row_addNumber lv0 (k1.lastRow rfl).1 (by simp [two])) (fun v9 sh9 V9 n9 hp9 => ?_)
    obtain ⟨ea9, eb9, ec9, rr1, ff1⟩ := hp9
    cases ea9
    obtain rfl := eb9.symm
    obtain rfl := ec9.symm
    have k2 := k1.last rfl hlt rr1 ff1
    have fr2 := fr1.row (Nat.le_refl _) ff1
    obtain ⟨z2, zz2⟩ := id (k2.lastRow rfl).1.1
    have cs2 := (k2.ch hk4).1
    unfold isChan at cs2
    refine fs_aload (pc2 := 122) rfl rfl rfl rfl ?_
    refine fs_aload (pc2 := 124) rfl rfl rfl rfl ?_
    refine fs_geti (pc2 := 127) rfl rfl rfl (by assumption) rfl ?_
    refine fs_callv (pc2 := 130) rfl rfl rfl rfl ⟨rfl, rfl⟩ (Nat.le_of_ble_eq_true rfl) (Nat.le_of_ble_eq_true rfl) (Nat.le_of_ble_eq_true rfl) (fs_rcv rfl (by assumption)) (by rw [show V9 (hb + 2 + 19 * k) 4 = nI (H.2.2.1 1 (tl H 0)) from by rw [((k2.ch hk4).i 4 (by omega)).1]; show nI ((va_up H.2.1 k (ch_acc (H.2.1 k) (H.2.2.1 0 (tl H 0)) (H.2.2.1 1 (tl H 0)) (H.2.2.1 2 (tl H 0)) (tl H 1) (tl H 2) (tl H 3) (tl H 4)) k).1 4) = _; rw [va_up_self]; simp [ch_acc, ch_open, va_up, n0]]; exact e_Row_addNumber lv1 (k2.lastRow rfl).1 (by simp [two])) (fun v9 sh9 V9 n9 hp9 => ?_)
    obtain ⟨ea9, eb9, ec9, rr2, ff2⟩ := hp9
    cases ea9
    obtain rfl := eb9.symm
    obtain rfl := ec9.symm
    have k3 := k2.last rfl hlt rr2 ff2
    have fr3 := fr2.row (Nat.le_refl _) ff2
    obtain ⟨z3, zz3⟩ := id (k3.lastRow rfl).1.1
    have cs3 := (k3.ch hk4).1
    unfold isChan at cs3
    refine fs_aload (pc2 := 132) rfl rfl rfl rfl ?_
    refine fs_aload (pc2 := 134) rfl rfl rfl rfl ?_
    refine fs_geti (pc2 := 137) rfl rfl rfl (by assumption) rfl ?_
    refine fs_callv (pc2 := 140) rfl rfl rfl rfl ⟨rfl, rfl⟩ (Nat.le_of_ble_eq_true rfl) (Nat.le_of_ble_eq_true rfl) (Nat.le_of_ble_eq_true rfl) (fs_rcv rfl (by assumption)) (by rw [show V9 (hb + 2 + 19 * k) 5 = nI (H.2.2.1 2 (tl H 0)) from by rw [((k3.ch hk4).i 5 (by omega)).1]; show nI ((va_up H.2.1 k (ch_acc (H.2.1 k) (H.2.2.1 0 (tl H 0)) (H.2.2.1 1 (tl H 0)) (H.2.2.1 2 (tl H 0)) (tl H 1) (tl H 2) (tl H 3) (tl H 4)) k).1 5) = _; rw [va_up_self]; simp [ch_acc, ch_open, va_up, n0]]; exact e_Row_addNumber lv2 (k3.lastRow rfl).1 (by simp [two])) (fun v9 sh9 V9 n9 hp9 => ?_)
    obtain ⟨ea9, eb9, ec9, rr3, ff3⟩ := hp9
    cases ea9
    obtain rfl := eb9.symm
    obtain rfl := ec9.symm
    have k4 := k3.last rfl hlt rr3 ff3
    have fr4 := fr3.row (Nat.le_refl _) ff3
    obtain ⟨z4, zz4⟩ := id (k4.lastRow rfl).1.1
    have cs4 := (k4.ch hk4).1
    unfold isChan at cs4
    refine fs_goto rfl rfl ?_
    refine fs_aload (pc2 := 166) rfl rfl rfl rfl ?_
    refine fs_iload_n (pc2 := 167) rfl rfl rfl rfl ?_
    refine fs_callv (pc2 := 170) rfl rfl rfl rfl ⟨rfl, rfl⟩ (Nat.le_of_ble_eq_true rfl) (Nat.le_of_ble_eq_true rfl) (Nat.le_of_ble_eq_true rfl) (fs_rcv rfl (by assumption)) (by rw [hj]; exact e_Row_addNumber (by decide) (k4.lastRow rfl).1 (by simp [two])) (fun v9 sh9 V9 n9 hp9 => ?_)
    obtain ⟨ea9, eb9, ec9, rr4, ff4⟩ := hp9
    cases ea9
    obtain rfl := eb9.symm
    obtain rfl := ec9.symm
    have k5 := k4.last rfl hlt rr4 ff4
    have fr5 := fr4.row (Nat.le_refl _) ff4
    obtain ⟨z5, zz5⟩ := id (k5.lastRow rfl).1.1
    have cs5 := (k5.ch hk4).1
    unfold isChan at cs5
    refine fs_ret rfl rfl ?_
    exact hP _ _ _ _ ⟨rfl, e1, _, k5, fr5⟩
set_option maxRecDepth 100000 in
set_option maxHeartbeats 4000000 in
theorem e_onRequest_some (hA : AlOK cy z0 a0 ext) (hlen : H.2.2.2.2.1.length < 512) {sid : Nat} (hid : sid < 256) {k : Nat} (hk4 : k < 4) (hcl : ho_closed H = some k) (hj : ho_judge H (tl H 0) (tl H 1) (tl H 2) (tl H 3) ≠ 0) (hH : Host sh V n K a0 hb e rs H) : fl_M cy z0 ext (d + 10) m_X1_onRequest [.ref (z0 + hb), .int (nI sid)] sh V n (fun v sh' V' n' => v = none ∧ ∃ e' rs', Host sh' V' n' K a0 hb e' rs' (ho_ref H sid (ho_judge H (tl H 0) (tl H 1) (tl H 2) (tl H 3))) ∧ Fr hb a0 sh V n e sh' V' n' e') := by
  obtain ⟨⟨f1, ⟨gc, f2, f3⟩, f4, f5, f6⟩, HC, HS, ⟨wh, HW⟩, HQ, HB, HG, HI⟩ := id hH
  unfold isHo at f1
  obtain ⟨b1, b2⟩ := id HB.1
  obtain ⟨t1, t2⟩ := id HG.1
  have al0 := HQ.1
  unfold eAl at al0
  have lnG : H.2.2.2.2.2.2.length ≤ 128 := HG.2.2.1
  have lnB : H.2.2.2.2.2.1.length ≤ 128 := HB.2.2.1
  have eG : V (hb + 182) 1 = nI H.2.2.2.2.2.2.length := HG.2.2.2.2.1
  have eB : V (hb + 180) 1 = nI H.2.2.2.2.2.1.length := HB.2.2.2.2.1
  have hlt := hH.rows
  have t0 := tl_lt hH 0
  have t1b := tl_lt hH 1
  have t2b := tl_lt hH 2
  have t3 := tl_lt hH 3
  have t4 := tl_lt hH 4
  have jl := ho_judge_lt H (tl H 0) (tl H 1) (tl H 2) (tl H 3)
  have n0 := (HC k hk4).2
  refine fs_body rfl rfl (fun Ret hP => ?_)
  refine fs_aload_n (pc2 := 1) rfl rfl rfl rfl ?_
  refine fs_iconst (pc2 := 2) rfl rfl rfl ?_
  refine fs_callv (pc2 := 5) rfl rfl rfl rfl ⟨rfl, rfl⟩ (Nat.le_of_ble_eq_true rfl) (Nat.le_of_ble_eq_true rfl) (Nat.le_of_ble_eq_true rfl) (fs_rcv rfl (by assumption)) (e_tl hH (k := 0) (t := tl H 0) (by decide) rfl) (fun v9 sh9 V9 n9 hp9 => ?_)
  obtain ⟨ea9, eb9, ec9, hv9⟩ := hp9
  cases ea9
  obtain rfl := eb9.symm
  obtain rfl := ec9.symm
  cases hv9
  refine fs_istore_n (pc2 := 6) rfl rfl rfl (Nat.le_of_ble_eq_true rfl) ?_
  refine fs_aload_n (pc2 := 7) rfl rfl rfl rfl ?_
  refine fs_iload_n (pc2 := 8) rfl rfl rfl rfl ?_
  refine fs_aload_n (pc2 := 9) rfl rfl rfl rfl ?_
  refine fs_iconst (pc2 := 10) rfl rfl rfl ?_
  refine fs_callv (pc2 := 13) rfl rfl rfl rfl ⟨rfl, rfl⟩ (Nat.le_of_ble_eq_true rfl) (Nat.le_of_ble_eq_true rfl) (Nat.le_of_ble_eq_true rfl) (fs_rcv rfl (by assumption)) (e_tl hH (k := 1) (t := tl H 1) (by decide) rfl) (fun v9 sh9 V9 n9 hp9 => ?_)
  obtain ⟨ea9, eb9, ec9, hv9⟩ := hp9
  cases ea9
  obtain rfl := eb9.symm
  obtain rfl := ec9.symm
  cases hv9
  refine fs_aload_n (pc2 := 14) rfl rfl rfl rfl ?_
  refine fs_iconst (pc2 := 15) rfl rfl rfl ?_
  refine fs_callv (pc2 := 18) rfl rfl rfl rfl ⟨rfl, rfl⟩ (Nat.le_of_ble_eq_true rfl) (Nat.le_of_ble_eq_true rfl) (Nat.le_of_ble_eq_true rfl) (fs_rcv rfl (by assumption)) (e_tl hH (k := 2) (t := tl H 2) (by decide) rfl) (fun v9 sh9 V9 n9 hp9 => ?_)
  obtain ⟨ea9, eb9, ec9, hv9⟩ := hp9
  cases ea9
  obtain rfl := eb9.symm
  obtain rfl := ec9.symm
  cases hv9
  refine fs_aload_n (pc2 := 19) rfl rfl rfl rfl ?_
  refine fs_iconst (pc2 := 20) rfl rfl rfl ?_
  refine fs_callv (pc2 := 23) rfl rfl rfl rfl ⟨rfl, rfl⟩ (Nat.le_of_ble_eq_true rfl) (Nat.le_of_ble_eq_true rfl) (Nat.le_of_ble_eq_true rfl) (fs_rcv rfl (by assumption)) (e_tl hH (k := 3) (t := tl H 3) (by decide) rfl) (fun v9 sh9 V9 n9 hp9 => ?_)
  obtain ⟨ea9, eb9, ec9, hv9⟩ := hp9
  cases ea9
  obtain rfl := eb9.symm
  obtain rfl := ec9.symm
  cases hv9
  refine fs_callv (pc2 := 26) rfl rfl rfl rfl ⟨rfl, rfl⟩ (Nat.le_of_ble_eq_true rfl) (Nat.le_of_ble_eq_true rfl) (Nat.le_of_ble_eq_true rfl) (fs_rcv rfl (by assumption)) (e_judge hH t0 t1b t2b t3) (fun v9 sh9 V9 n9 hp9 => ?_)
  obtain ⟨ea9, eb9, ec9, hv9⟩ := hp9
  cases ea9
  obtain rfl := eb9.symm
  obtain rfl := ec9.symm
  cases hv9
  refine fs_istore_n (pc2 := 27) rfl rfl rfl (Nat.le_of_ble_eq_true rfl) ?_
  refine fs_aload_n (pc2 := 28) rfl rfl rfl rfl ?_
  refine fs_callv (pc2 := 31) rfl rfl rfl rfl ⟨rfl, rfl⟩ (Nat.le_of_ble_eq_true rfl) (Nat.le_of_ble_eq_true rfl) (Nat.le_of_ble_eq_true rfl) (fs_rcv rfl (by assumption)) (e_firstClosed hH) (fun v9 sh9 V9 n9 hp9 => ?_)
  obtain ⟨ea9, eb9, ec9, hv9⟩ := hp9
  cases ea9
  obtain rfl := eb9.symm
  obtain rfl := ec9.symm
  cases hv9
  rw [hcl]
  rw [show fl_r z0 (Option.map (fun j => hb + 2 + 19 * j) (some k)) = .ref (z0 + (hb + 2 + 19 * k)) from rfl]
  refine fs_astore (pc2 := 33) rfl rfl rfl (Nat.le_of_ble_eq_true rfl) ?_
  refine fs_aload_n (pc2 := 34) rfl rfl rfl rfl ?_
  refine fs_bipush (pc2 := 36) rfl rfl rfl ?_
  refine fs_iload_n (pc2 := 37) rfl rfl rfl rfl ?_
  refine fs_iconst (pc2 := 38) rfl rfl rfl ?_
  refine fs_callv (pc2 := 41) rfl rfl rfl rfl ⟨rfl, rfl⟩ (Nat.le_of_ble_eq_true rfl) (Nat.le_of_ble_eq_true rfl) (Nat.le_of_ble_eq_true rfl) (fs_rcv rfl (by assumption)) (e_addSignal (co := 21) (k := 5) hA (by decide) hid (by decide) hlen hH) (fun v9 sh9 V9 n9 hp9 => ?_)
  obtain ⟨ea9, e1, k0, frs⟩ := hp9
  cases ea9
  obtain ⟨z0a, z0b⟩ := id (k0.lastRow rfl).1.1
  obtain ⟨⟨f1x, ⟨gcx, f2x, f3x⟩, f4x, f5x, f6x⟩, HCx, HSx, ⟨whx, HWx⟩, HQx, HBx, HGx, HIx⟩ := id k0
  unfold isHo at f1x
  obtain ⟨b1x, b2x⟩ := id HBx.1
  obtain ⟨t1x, t2x⟩ := id HGx.1
  have al0x := HQx.1
  unfold eAl at al0x
  refine fs_astore (pc2 := 43) rfl rfl rfl (Nat.le_of_ble_eq_true rfl) ?_
  refine fs_iload_n (pc2 := 44) rfl rfl rfl rfl ?_
  refine fs_if_ne (pc2 := 47) rfl rfl rfl (fun h44 => ?_) (fun h44 => ?_)
  · refine fs_iconst (pc2 := 144) rfl rfl rfl ?_
    refine fs_istore (pc2 := 146) rfl rfl rfl (Nat.le_of_ble_eq_true rfl) ?_
    refine fs_iload (pc2 := 148) rfl rfl rfl rfl ?_
    refine fs_iconst (pc2 := 149) rfl rfl rfl ?_
    refine fs_icmp_ge (pc2 := 152) rfl rfl rfl (fun h149 => ?_) (fun h149 => ?_)
    · exact absurd (by decide) h149
    · refine fs_aload (pc2 := 154) rfl rfl rfl rfl ?_
      refine fs_iconst (pc2 := 155) rfl rfl rfl ?_
      refine fs_callv (pc2 := 158) rfl rfl rfl rfl ⟨rfl, rfl⟩ (Nat.le_of_ble_eq_true rfl) (Nat.le_of_ble_eq_true rfl) (Nat.le_of_ble_eq_true rfl) (fs_rcv rfl (by assumption)) (by exact e_Row_addNumber (by decide : 0 < 65536) (k0.lastRow rfl).1 (by simp [two])) (fun v9 sh9 V9 n9 hp9 => ?_)
      obtain ⟨ea9, eb9, ec9, rr0, ff0⟩ := hp9
      cases ea9
      obtain rfl := eb9.symm
      obtain rfl := ec9.symm
      have k1 := k0.last rfl hlt rr0 ff0
      have fr1 := frs.row (Nat.le_refl _) ff0
      obtain ⟨z1, zz1⟩ := id (k1.lastRow rfl).1.1
      have fx1 := k1.1.1
      unfold isHo at fx1
      refine fs_iinc (pc2 := 161) rfl rfl rfl (Nat.le_of_ble_eq_true rfl) rfl ?_
      refine fs_goto rfl rfl ?_
      refine fs_iload (pc2 := 148) rfl rfl rfl rfl ?_
      refine fs_iconst (pc2 := 149) rfl rfl rfl ?_
      refine fs_icmp_ge (pc2 := 152) rfl rfl rfl (fun h149 => ?_) (fun h149 => ?_)
      · exact absurd (by decide) h149
      · refine fs_aload (pc2 := 154) rfl rfl rfl rfl ?_
        refine fs_iconst (pc2 := 155) rfl rfl rfl ?_
        refine fs_callv (pc2 := 158) rfl rfl rfl rfl ⟨rfl, rfl⟩ (Nat.le_of_ble_eq_true rfl) (Nat.le_of_ble_eq_true rfl) (Nat.le_of_ble_eq_true rfl) (fs_rcv rfl (by assumption)) (by exact e_Row_addNumber (by decide : 0 < 65536) (k1.lastRow rfl).1 (by simp [two])) (fun v9 sh9 V9 n9 hp9 => ?_)
        obtain ⟨ea9, eb9, ec9, rr1, ff1⟩ := hp9
        cases ea9
        obtain rfl := eb9.symm
        obtain rfl := ec9.symm
        have k2 := k1.last rfl hlt rr1 ff1
        have fr2 := fr1.row (Nat.le_refl _) ff1
        obtain ⟨z2, zz2⟩ := id (k2.lastRow rfl).1.1
        have fx2 := k2.1.1
        unfold isHo at fx2
        refine fs_iinc (pc2 := 161) rfl rfl rfl (Nat.le_of_ble_eq_true rfl) rfl ?_
        refine fs_goto rfl rfl ?_
        refine fs_iload (pc2 := 148) rfl rfl rfl rfl ?_
        refine fs_iconst (pc2 := 149) rfl rfl rfl ?_
        refine fs_icmp_ge (pc2 := 152) rfl rfl rfl (fun h149 => ?_) (fun h149 => ?_)
        · exact absurd (by decide) h149
        · refine fs_aload (pc2 := 154) rfl rfl rfl rfl ?_
          refine fs_iconst (pc2 := 155) rfl rfl rfl ?_
          refine fs_callv (pc2 := 158) rfl rfl rfl rfl ⟨rfl, rfl⟩ (Nat.le_of_ble_eq_true rfl) (Nat.le_of_ble_eq_true rfl) (Nat.le_of_ble_eq_true rfl) (fs_rcv rfl (by assumption)) (by exact e_Row_addNumber (by decide : 0 < 65536) (k2.lastRow rfl).1 (by simp [two])) (fun v9 sh9 V9 n9 hp9 => ?_)
          obtain ⟨ea9, eb9, ec9, rr2, ff2⟩ := hp9
          cases ea9
          obtain rfl := eb9.symm
          obtain rfl := ec9.symm
          have k3 := k2.last rfl hlt rr2 ff2
          have fr3 := fr2.row (Nat.le_refl _) ff2
          obtain ⟨z3, zz3⟩ := id (k3.lastRow rfl).1.1
          have fx3 := k3.1.1
          unfold isHo at fx3
          refine fs_iinc (pc2 := 161) rfl rfl rfl (Nat.le_of_ble_eq_true rfl) rfl ?_
          refine fs_goto rfl rfl ?_
          refine fs_iload (pc2 := 148) rfl rfl rfl rfl ?_
          refine fs_iconst (pc2 := 149) rfl rfl rfl ?_
          refine fs_icmp_ge (pc2 := 152) rfl rfl rfl (fun h149 => ?_) (fun h149 => ?_)
          · exact absurd (by decide) h149
          · refine fs_aload (pc2 := 154) rfl rfl rfl rfl ?_
            refine fs_iconst (pc2 := 155) rfl rfl rfl ?_
            refine fs_callv (pc2 := 158) rfl rfl rfl rfl ⟨rfl, rfl⟩ (Nat.le_of_ble_eq_true rfl) (Nat.le_of_ble_eq_true rfl) (Nat.le_of_ble_eq_true rfl) (fs_rcv rfl (by assumption)) (by exact e_Row_addNumber (by decide : 0 < 65536) (k3.lastRow rfl).1 (by simp [two])) (fun v9 sh9 V9 n9 hp9 => ?_)
            obtain ⟨ea9, eb9, ec9, rr3, ff3⟩ := hp9
            cases ea9
            obtain rfl := eb9.symm
            obtain rfl := ec9.symm
            have k4 := k3.last rfl hlt rr3 ff3
            have fr4 := fr3.row (Nat.le_refl _) ff3
            obtain ⟨z4, zz4⟩ := id (k4.lastRow rfl).1.1
            have fx4 := k4.1.1
            unfold isHo at fx4
            refine fs_iinc (pc2 := 161) rfl rfl rfl (Nat.le_of_ble_eq_true rfl) rfl ?_
            refine fs_goto rfl rfl ?_
            refine fs_iload (pc2 := 148) rfl rfl rfl rfl ?_
            refine fs_iconst (pc2 := 149) rfl rfl rfl ?_
            refine fs_icmp_ge (pc2 := 152) rfl rfl rfl (fun h149 => ?_) (fun h149 => ?_)
            · refine fs_aload (pc2 := 166) rfl rfl rfl rfl ?_
              refine fs_iload_n (pc2 := 167) rfl rfl rfl rfl ?_
              refine fs_callv (pc2 := 170) rfl rfl rfl rfl ⟨rfl, rfl⟩ (Nat.le_of_ble_eq_true rfl) (Nat.le_of_ble_eq_true rfl) (Nat.le_of_ble_eq_true rfl) (fs_rcv rfl (by assumption)) (by exact e_Row_addNumber (by omega) (k4.lastRow rfl).1 (by simp [two])) (fun v9 sh9 V9 n9 hp9 => ?_)
              obtain ⟨ea9, eb9, ec9, rr4, ff4⟩ := hp9
              cases ea9
              obtain rfl := eb9.symm
              obtain rfl := ec9.symm
              have k5 := k4.last rfl hlt rr4 ff4
              have fr5 := fr4.row (Nat.le_refl _) ff4
              obtain ⟨z5, zz5⟩ := id (k5.lastRow rfl).1.1
              have fx5 := k5.1.1
              unfold isHo at fx5
              refine fs_ret rfl rfl ?_
              exact hP _ _ _ _ ⟨rfl, e1, _, k5, fr5⟩
            · exact absurd h149 (by decide)
  · exact absurd (c_eq (a := ho_judge H (tl H 0) (tl H 1) (tl H 2) (tl H 3)) (b := 0) h44 rfl rfl) hj
set_option maxRecDepth 100000 in
set_option maxHeartbeats 4000000 in
theorem e_onRequest_null (hA : AlOK cy z0 a0 ext) (hlen : H.2.2.2.2.1.length < 512) {sid : Nat} (hid : sid < 256) (hcl : ho_closed H = none) (hH : Host sh V n K a0 hb e rs H) : fl_M cy z0 ext (d + 10) m_X1_onRequest [.ref (z0 + hb), .int (nI sid)] sh V n (fun v sh' V' n' => v = none ∧ ∃ e' rs', Host sh' V' n' K a0 hb e' rs' (ho_ref H sid (ho_judge H (tl H 0) (tl H 1) (tl H 2) (tl H 3))) ∧ Fr hb a0 sh V n e sh' V' n' e') := by
  obtain ⟨⟨f1, ⟨gc, f2, f3⟩, f4, f5, f6⟩, HC, HS, ⟨wh, HW⟩, HQ, HB, HG, HI⟩ := id hH
  unfold isHo at f1
  obtain ⟨b1, b2⟩ := id HB.1
  obtain ⟨t1, t2⟩ := id HG.1
  have al0 := HQ.1
  unfold eAl at al0
  have lnG : H.2.2.2.2.2.2.length ≤ 128 := HG.2.2.1
  have lnB : H.2.2.2.2.2.1.length ≤ 128 := HB.2.2.1
  have eG : V (hb + 182) 1 = nI H.2.2.2.2.2.2.length := HG.2.2.2.2.1
  have eB : V (hb + 180) 1 = nI H.2.2.2.2.2.1.length := HB.2.2.2.2.1
  have hlt := hH.rows
  have t0 := tl_lt hH 0
  have t1b := tl_lt hH 1
  have t2b := tl_lt hH 2
  have t3 := tl_lt hH 3
  have t4 := tl_lt hH 4
  have jl := ho_judge_lt H (tl H 0) (tl H 1) (tl H 2) (tl H 3)
  have hj : ho_judge H (tl H 0) (tl H 1) (tl H 2) (tl H 3) ≠ 0 := fun q => by obtain ⟨_, k, hk⟩ := ho_judge_0 q; rw [hcl] at hk; cases hk
  refine fs_body rfl rfl (fun Ret hP => ?_)
  refine fs_aload_n (pc2 := 1) rfl rfl rfl rfl ?_
  refine fs_iconst (pc2 := 2) rfl rfl rfl ?_
  refine fs_callv (pc2 := 5) rfl rfl rfl rfl ⟨rfl, rfl⟩ (Nat.le_of_ble_eq_true rfl) (Nat.le_of_ble_eq_true rfl) (Nat.le_of_ble_eq_true rfl) (fs_rcv rfl (by assumption)) (e_tl hH (k := 0) (t := tl H 0) (by decide) rfl) (fun v9 sh9 V9 n9 hp9 => ?_)
  obtain ⟨ea9, eb9, ec9, hv9⟩ := hp9
  cases ea9
  obtain rfl := eb9.symm
  obtain rfl := ec9.symm
  cases hv9
  refine fs_istore_n (pc2 := 6) rfl rfl rfl (Nat.le_of_ble_eq_true rfl) ?_
  refine fs_aload_n (pc2 := 7) rfl rfl rfl rfl ?_
  refine fs_iload_n (pc2 := 8) rfl rfl rfl rfl ?_
  refine fs_aload_n (pc2 := 9) rfl rfl rfl rfl ?_
  refine fs_iconst (pc2 := 10) rfl rfl rfl ?_
  refine fs_callv (pc2 := 13) rfl rfl rfl rfl ⟨rfl, rfl⟩ (Nat.le_of_ble_eq_true rfl) (Nat.le_of_ble_eq_true rfl) (Nat.le_of_ble_eq_true rfl) (fs_rcv rfl (by assumption)) (e_tl hH (k := 1) (t := tl H 1) (by decide) rfl) (fun v9 sh9 V9 n9 hp9 => ?_)
  obtain ⟨ea9, eb9, ec9, hv9⟩ := hp9
  cases ea9
  obtain rfl := eb9.symm
  obtain rfl := ec9.symm
  cases hv9
  refine fs_aload_n (pc2 := 14) rfl rfl rfl rfl ?_
  refine fs_iconst (pc2 := 15) rfl rfl rfl ?_
  refine fs_callv (pc2 := 18) rfl rfl rfl rfl ⟨rfl, rfl⟩ (Nat.le_of_ble_eq_true rfl) (Nat.le_of_ble_eq_true rfl) (Nat.le_of_ble_eq_true rfl) (fs_rcv rfl (by assumption)) (e_tl hH (k := 2) (t := tl H 2) (by decide) rfl) (fun v9 sh9 V9 n9 hp9 => ?_)
  obtain ⟨ea9, eb9, ec9, hv9⟩ := hp9
  cases ea9
  obtain rfl := eb9.symm
  obtain rfl := ec9.symm
  cases hv9
  refine fs_aload_n (pc2 := 19) rfl rfl rfl rfl ?_
  refine fs_iconst (pc2 := 20) rfl rfl rfl ?_
  refine fs_callv (pc2 := 23) rfl rfl rfl rfl ⟨rfl, rfl⟩ (Nat.le_of_ble_eq_true rfl) (Nat.le_of_ble_eq_true rfl) (Nat.le_of_ble_eq_true rfl) (fs_rcv rfl (by assumption)) (e_tl hH (k := 3) (t := tl H 3) (by decide) rfl) (fun v9 sh9 V9 n9 hp9 => ?_)
  obtain ⟨ea9, eb9, ec9, hv9⟩ := hp9
  cases ea9
  obtain rfl := eb9.symm
  obtain rfl := ec9.symm
  cases hv9
  refine fs_callv (pc2 := 26) rfl rfl rfl rfl ⟨rfl, rfl⟩ (Nat.le_of_ble_eq_true rfl) (Nat.le_of_ble_eq_true rfl) (Nat.le_of_ble_eq_true rfl) (fs_rcv rfl (by assumption)) (e_judge hH t0 t1b t2b t3) (fun v9 sh9 V9 n9 hp9 => ?_)
  obtain ⟨ea9, eb9, ec9, hv9⟩ := hp9
  cases ea9
  obtain rfl := eb9.symm
  obtain rfl := ec9.symm
  cases hv9
  refine fs_istore_n (pc2 := 27) rfl rfl rfl (Nat.le_of_ble_eq_true rfl) ?_
  refine fs_aload_n (pc2 := 28) rfl rfl rfl rfl ?_
  refine fs_callv (pc2 := 31) rfl rfl rfl rfl ⟨rfl, rfl⟩ (Nat.le_of_ble_eq_true rfl) (Nat.le_of_ble_eq_true rfl) (Nat.le_of_ble_eq_true rfl) (fs_rcv rfl (by assumption)) (e_firstClosed hH) (fun v9 sh9 V9 n9 hp9 => ?_)
  obtain ⟨ea9, eb9, ec9, hv9⟩ := hp9
  cases ea9
  obtain rfl := eb9.symm
  obtain rfl := ec9.symm
  cases hv9
  rw [hcl]
  refine fs_astore0 (pc2 := 33) rfl rfl rfl (Nat.le_of_ble_eq_true rfl) ?_
  refine fs_aload_n (pc2 := 34) rfl rfl rfl rfl ?_
  refine fs_bipush (pc2 := 36) rfl rfl rfl ?_
  refine fs_iload_n (pc2 := 37) rfl rfl rfl rfl ?_
  refine fs_iconst (pc2 := 38) rfl rfl rfl ?_
  refine fs_callv (pc2 := 41) rfl rfl rfl rfl ⟨rfl, rfl⟩ (Nat.le_of_ble_eq_true rfl) (Nat.le_of_ble_eq_true rfl) (Nat.le_of_ble_eq_true rfl) (fs_rcv rfl (by assumption)) (e_addSignal (co := 21) (k := 5) hA (by decide) hid (by decide) hlen hH) (fun v9 sh9 V9 n9 hp9 => ?_)
  obtain ⟨ea9, e1, k0, frs⟩ := hp9
  cases ea9
  obtain ⟨z0a, z0b⟩ := id (k0.lastRow rfl).1.1
  obtain ⟨⟨f1x, ⟨gcx, f2x, f3x⟩, f4x, f5x, f6x⟩, HCx, HSx, ⟨whx, HWx⟩, HQx, HBx, HGx, HIx⟩ := id k0
  unfold isHo at f1x
  obtain ⟨b1x, b2x⟩ := id HBx.1
  obtain ⟨t1x, t2x⟩ := id HGx.1
  have al0x := HQx.1
  unfold eAl at al0x
  refine fs_astore (pc2 := 43) rfl rfl rfl (Nat.le_of_ble_eq_true rfl) ?_
  refine fs_iload_n (pc2 := 44) rfl rfl rfl rfl ?_
  refine fs_if_ne (pc2 := 47) rfl rfl rfl (fun h44 => ?_) (fun h44 => ?_)
  · refine fs_iconst (pc2 := 144) rfl rfl rfl ?_
    refine fs_istore (pc2 := 146) rfl rfl rfl (Nat.le_of_ble_eq_true rfl) ?_
    refine fs_iload (pc2 := 148) rfl rfl rfl rfl ?_
    refine fs_iconst (pc2 := 149) rfl rfl rfl ?_
    refine fs_icmp_ge (pc2 := 152) rfl rfl rfl (fun h149 => ?_) (fun h149 => ?_)
    · exact absurd (by decide) h149
    · refine fs_aload (pc2 := 154) rfl rfl rfl rfl ?_
      refine fs_iconst (pc2 := 155) rfl rfl rfl ?_
      refine fs_callv (pc2 := 158) rfl rfl rfl rfl ⟨rfl, rfl⟩ (Nat.le_of_ble_eq_true rfl) (Nat.le_of_ble_eq_true rfl) (Nat.le_of_ble_eq_true rfl) (fs_rcv rfl (by assumption)) (by exact e_Row_addNumber (by decide : 0 < 65536) (k0.lastRow rfl).1 (by simp [two])) (fun v9 sh9 V9 n9 hp9 => ?_)
      obtain ⟨ea9, eb9, ec9, rr0, ff0⟩ := hp9
      cases ea9
      obtain rfl := eb9.symm
      obtain rfl := ec9.symm
      have k1 := k0.last rfl hlt rr0 ff0
      have fr1 := frs.row (Nat.le_refl _) ff0
      obtain ⟨z1, zz1⟩ := id (k1.lastRow rfl).1.1
      have fx1 := k1.1.1
      unfold isHo at fx1
      refine fs_iinc (pc2 := 161) rfl rfl rfl (Nat.le_of_ble_eq_true rfl) rfl ?_
      refine fs_goto rfl rfl ?_
      refine fs_iload (pc2 := 148) rfl rfl rfl rfl ?_
      refine fs_iconst (pc2 := 149) rfl rfl rfl ?_
      refine fs_icmp_ge (pc2 := 152) rfl rfl rfl (fun h149 => ?_) (fun h149 => ?_)
      · exact absurd (by decide) h149
      · refine fs_aload (pc2 := 154) rfl rfl rfl rfl ?_
        refine fs_iconst (pc2 := 155) rfl rfl rfl ?_
        refine fs_callv (pc2 := 158) rfl rfl rfl rfl ⟨rfl, rfl⟩ (Nat.le_of_ble_eq_true rfl) (Nat.le_of_ble_eq_true rfl) (Nat.le_of_ble_eq_true rfl) (fs_rcv rfl (by assumption)) (by exact e_Row_addNumber (by decide : 0 < 65536) (k1.lastRow rfl).1 (by simp [two])) (fun v9 sh9 V9 n9 hp9 => ?_)
        obtain ⟨ea9, eb9, ec9, rr1, ff1⟩ := hp9
        cases ea9
        obtain rfl := eb9.symm
        obtain rfl := ec9.symm
        have k2 := k1.last rfl hlt rr1 ff1
        have fr2 := fr1.row (Nat.le_refl _) ff1
        obtain ⟨z2, zz2⟩ := id (k2.lastRow rfl).1.1
        have fx2 := k2.1.1
        unfold isHo at fx2
        refine fs_iinc (pc2 := 161) rfl rfl rfl (Nat.le_of_ble_eq_true rfl) rfl ?_
        refine fs_goto rfl rfl ?_
        refine fs_iload (pc2 := 148) rfl rfl rfl rfl ?_
        refine fs_iconst (pc2 := 149) rfl rfl rfl ?_
        refine fs_icmp_ge (pc2 := 152) rfl rfl rfl (fun h149 => ?_) (fun h149 => ?_)
        · exact absurd (by decide) h149
        · refine fs_aload (pc2 := 154) rfl rfl rfl rfl ?_
          refine fs_iconst (pc2 := 155) rfl rfl rfl ?_
          refine fs_callv (pc2 := 158) rfl rfl rfl rfl ⟨rfl, rfl⟩ (Nat.le_of_ble_eq_true rfl) (Nat.le_of_ble_eq_true rfl) (Nat.le_of_ble_eq_true rfl) (fs_rcv rfl (by assumption)) (by exact e_Row_addNumber (by decide : 0 < 65536) (k2.lastRow rfl).1 (by simp [two])) (fun v9 sh9 V9 n9 hp9 => ?_)
          obtain ⟨ea9, eb9, ec9, rr2, ff2⟩ := hp9
          cases ea9
          obtain rfl := eb9.symm
          obtain rfl := ec9.symm
          have k3 := k2.last rfl hlt rr2 ff2
          have fr3 := fr2.row (Nat.le_refl _) ff2
          obtain ⟨z3, zz3⟩ := id (k3.lastRow rfl).1.1
          have fx3 := k3.1.1
          unfold isHo at fx3
          refine fs_iinc (pc2 := 161) rfl rfl rfl (Nat.le_of_ble_eq_true rfl) rfl ?_
          refine fs_goto rfl rfl ?_
          refine fs_iload (pc2 := 148) rfl rfl rfl rfl ?_
          refine fs_iconst (pc2 := 149) rfl rfl rfl ?_
          refine fs_icmp_ge (pc2 := 152) rfl rfl rfl (fun h149 => ?_) (fun h149 => ?_)
          · exact absurd (by decide) h149
          · refine fs_aload (pc2 := 154) rfl rfl rfl rfl ?_
            refine fs_iconst (pc2 := 155) rfl rfl rfl ?_
            refine fs_callv (pc2 := 158) rfl rfl rfl rfl ⟨rfl, rfl⟩ (Nat.le_of_ble_eq_true rfl) (Nat.le_of_ble_eq_true rfl) (Nat.le_of_ble_eq_true rfl) (fs_rcv rfl (by assumption)) (by exact e_Row_addNumber (by decide : 0 < 65536) (k3.lastRow rfl).1 (by simp [two])) (fun v9 sh9 V9 n9 hp9 => ?_)
            obtain ⟨ea9, eb9, ec9, rr3, ff3⟩ := hp9
            cases ea9
            obtain rfl := eb9.symm
            obtain rfl := ec9.symm
            have k4 := k3.last rfl hlt rr3 ff3
            have fr4 := fr3.row (Nat.le_refl _) ff3
            obtain ⟨z4, zz4⟩ := id (k4.lastRow rfl).1.1
            have fx4 := k4.1.1
            unfold isHo at fx4
            refine fs_iinc (pc2 := 161) rfl rfl rfl (Nat.le_of_ble_eq_true rfl) rfl ?_
            refine fs_goto rfl rfl ?_
            refine fs_iload (pc2 := 148) rfl rfl rfl rfl ?_
            refine fs_iconst (pc2 := 149) rfl rfl rfl ?_
            refine fs_icmp_ge (pc2 := 152) rfl rfl rfl (fun h149 => ?_) (fun h149 => ?_)
            · refine fs_aload (pc2 := 166) rfl rfl rfl rfl ?_
              refine fs_iload_n (pc2 := 167) rfl rfl rfl rfl ?_
              refine fs_callv (pc2 := 170) rfl rfl rfl rfl ⟨rfl, rfl⟩ (Nat.le_of_ble_eq_true rfl) (Nat.le_of_ble_eq_true rfl) (Nat.le_of_ble_eq_true rfl) (fs_rcv rfl (by assumption)) (by exact e_Row_addNumber (by omega) (k4.lastRow rfl).1 (by simp [two])) (fun v9 sh9 V9 n9 hp9 => ?_)
              obtain ⟨ea9, eb9, ec9, rr4, ff4⟩ := hp9
              cases ea9
              obtain rfl := eb9.symm
              obtain rfl := ec9.symm
              have k5 := k4.last rfl hlt rr4 ff4
              have fr5 := fr4.row (Nat.le_refl _) ff4
              obtain ⟨z5, zz5⟩ := id (k5.lastRow rfl).1.1
              have fx5 := k5.1.1
              unfold isHo at fx5
              refine fs_ret rfl rfl ?_
              exact hP _ _ _ _ ⟨rfl, e1, _, k5, fr5⟩
            · exact absurd h149 (by decide)
  · exact absurd (c_eq (a := ho_judge H (tl H 0) (tl H 1) (tl H 2) (tl H 3)) (b := 0) h44 rfl rfl) hj
theorem e_onRequest (hH : Host sh V n K a0 hb e rs H) (hA : AlOK cy z0 a0 ext) (hlen : H.2.2.2.2.1.length < 512) {sid : Nat} (hid : sid < 256) : fl_M cy z0 ext (d + 10) m_X1_onRequest [.ref (z0 + hb), .int (nI sid)] sh V n (fun v sh' V' n' => v = none ∧ ∃ e' rs', Host sh' V' n' K a0 hb e' rs' (ho_req H sid) ∧ Fr hb a0 sh V n e sh' V' n' e') := by
  unfold ho_req
  cases hcl : ho_closed H with
  | none => exact e_onRequest_null hA hlen hid hcl hH
  | some k =>
    have hk4 := (first4_lt hcl).1
    dsimp only
    split
    · next hj => exact e_onRequest_acc hA hlen hid hk4 hcl hj hH
    · next hj => exact e_onRequest_some hA hlen hid hk4 hcl hj hH
end REQ
