/-! THE LAW'S LOOP -/
theorem lw_le {i L : Nat} (hi : i ≤ 3072) (hL : L ≤ 3072) (h : nI i ≤ Int32.ofNat L - 6) : i + 6 ≤ L := by
  have e : Int32.ofNat L = nI L := rfl
  have e6 : (6 : Int32).toInt = 6 := by decide
  rw [e, Int32.le_iff_toInt_le, Int32.toInt_sub, nI_toInt (by omega), nI_toInt (by omega), e6] at h
  have : ((L : Int) - 6).bmod (2 ^ 32) = (L : Int) - 6 := by
    apply Int.bmod_eq_of_le <;> omega
  rw [this] at h
  omega
theorem lw_15 (v : Int32) : ∃ r, r < 16 ∧ v &&& 15 = nI r := by
  refine ⟨v.toBitVec.toNat % 16, by omega, ?_⟩
  apply Int32.toBitVec_inj.mp
  apply BitVec.eq_of_toNat_eq
  rw [show (nI (v.toBitVec.toNat % 16)).toBitVec.toNat = v.toBitVec.toNat % 16 from pk_tn (by omega)]
  show (v.toBitVec &&& (15 : Int32).toBitVec).toNat = _
  rw [BitVec.toNat_and, show (15 : Int32).toBitVec.toNat = 2 ^ 4 - 1 from by decide, Nat.and_two_pow_sub_one_eq_mod]
theorem LI.mono {K a0 c mb o n t : Nat} {sh : fl_S} {V : fl_V} (h : LI K a0 c mb o sh V n t) (ht : t < 512) : LI K a0 c mb o sh V n (t + 1) := by
  obtain ⟨E, R, S, HH, g, hL, hm, hM, ho, hJ⟩ := h
  exact ⟨E, R, S, HH, g, hL, hm, hM.mono (fun i _ => ⟨Nat.le_succ _, by omega⟩), ho, hJ.mono⟩
section LOOP
variable {l : Launch} {D : va_G} {cy : Nat → ClassId} {zF z0 a0 K c mb oo : Nat} {ext : Nat → Nat → List Value → ev_H → Nat → ev_P → Prop} {b Lx : Nat} {xs : Nat → Int32} {Ret : ev_P}
set_option maxRecDepth 100000 in
set_option maxHeartbeats 4000000 in
theorem lw_back {T : List (Nat × Value)} {sh : fl_S} {V : fl_V} {n j cc sl : Nat} (hT : TS T) (h : ∀ T', TS T' → lQ l D cy zF z0 ext b Lx xs Ret 23 ([(0, .ref b), (1, .ref (z0 + c)), (2, .ref (z0 + mb)), (3, .ref (z0 + oo)), (4, .int (nI (6 * (j + 1))))] ++ T') [] sh V n cc sl) : lQ l D cy zF z0 ext b Lx xs Ret 1053 ([(0, .ref b), (1, .ref (z0 + c)), (2, .ref (z0 + mb)), (3, .ref (z0 + oo)), (4, .int (nI (6 * j)))] ++ T) [] sh V n cc sl := by
  have e6 : nI (6 * j) + 6 = nI (6 * (j + 1)) := by rw [show (6 : Int32) = nI 6 from rfl, nI_add]; congr 1
  rcases hT with rfl | ⟨u5, rfl⟩ | ⟨u5, u6, rfl⟩
  · refine fs_iinc (pc2 := 1056) (kl_at_15 rfl) rfl rfl (Nat.le_of_ble_eq_true rfl) rfl ?_
    refine fs_goto (kl_at_15 rfl) rfl ?_
    have := h [] (Or.inl rfl)
    rw [← e6] at this
    exact this
  · refine fs_iinc (pc2 := 1056) (kl_at_15 rfl) rfl rfl (Nat.le_of_ble_eq_true rfl) rfl ?_
    refine fs_goto (kl_at_15 rfl) rfl ?_
    have := h [(5, .int u5)] (Or.inr (Or.inl ⟨_, rfl⟩))
    rw [← e6] at this
    exact this
  · refine fs_iinc (pc2 := 1056) (kl_at_15 rfl) rfl rfl (Nat.le_of_ble_eq_true rfl) rfl ?_
    refine fs_goto (kl_at_15 rfl) rfl ?_
    have := h [(5, .int u5), (6, .int u6)] (Or.inr (Or.inr ⟨_, _, rfl⟩))
    rw [← e6] at this
    exact this
set_option maxRecDepth 100000 in
set_option maxHeartbeats 4000000 in
theorem lw_loop (hext : ev_HX l D cy zF ext) (hst : l.stackTraces = false) (hA : AlOK cy z0 a0 ext) (e1 : mb = c + 374) (e2 : oo = c + 420) (e3 : K = c + 421) (hLx : Lx ≤ 3072) (hRet : ∀ f n, Ret (some (.int 1)) f n) : ∀ (k j : Nat), j + k = 512 → ∀ (T : List (Nat × Value)) (sh : fl_S) (V : fl_V) (n cc sl : Nat), TS T → LI K a0 c mb oo sh V n j → cc ≤ 1000 + 4 * j → sl ≤ 200000 + 740 * j → lQ l D cy zF z0 ext b Lx xs Ret 23 ([(0, .ref b), (1, .ref (z0 + c)), (2, .ref (z0 + mb)), (3, .ref (z0 + oo)), (4, .int (nI (6 * j)))] ++ T) [] sh V n cc sl := by
  intro k
  induction k with
  | zero =>
    intro j hj T sh V n cc sl hT hI hc hs
    refine fs_iload (pc2 := 25) (kl_at_0 rfl) rfl rfl rfl ?_
    refine fs_aload_n (pc2 := 26) (kl_at_0 rfl) rfl rfl rfl ?_
    refine lw_len (pc2 := 27) (kl_at_0 rfl) rfl ?_
    refine fs_bipush (pc2 := 29) (kl_at_0 rfl) rfl rfl ?_
    refine fs_isub (pc2 := 30) (kl_at_0 rfl) rfl rfl ?_
    refine fs_icmp_gt (pc2 := 33) (kl_at_0 rfl) rfl rfl (fun h30 => ?_) (fun h30 => ?_)
    · refine fs_iconst (pc2 := 1060) (kl_at_15 rfl) rfl rfl ?_
      refine fs_iret (kl_at_15 rfl) rfl (Or.inr rfl) ?_
      exact hRet _ _
    · have := lw_le (by omega) hLx h30
      omega
  | succ k ih =>
    intro j hj T sh V n cc sl hT hI hc hs
    refine fs_iload (pc2 := 25) (kl_at_0 rfl) rfl rfl rfl ?_
    refine fs_aload_n (pc2 := 26) (kl_at_0 rfl) rfl rfl rfl ?_
    refine lw_len (pc2 := 27) (kl_at_0 rfl) rfl ?_
    refine fs_bipush (pc2 := 29) (kl_at_0 rfl) rfl rfl ?_
    refine fs_isub (pc2 := 30) (kl_at_0 rfl) rfl rfl ?_
    refine fs_icmp_gt (pc2 := 33) (kl_at_0 rfl) rfl rfl (fun h30 => ?_) (fun h30 => ?_)
    · refine fs_iconst (pc2 := 1060) (kl_at_15 rfl) rfl rfl ?_
      refine fs_iret (kl_at_15 rfl) rfl (Or.inr rfl) ?_
      exact hRet _ _
    · have hx := lw_le (by omega) hLx h30
      have hq0 : vp_in (nI (6 * j)) Lx := vp_in_nI (by omega) (by omega)
      have hN : ∀ T' sh' V' n' c' sl', TS T' → LI K a0 c mb oo sh' V' n' (j + 1) → c' ≤ cc + 4 → sl' ≤ sl + 740 → lQ l D cy zF z0 ext b Lx xs Ret 1053 ([(0, .ref b), (1, .ref (z0 + c)), (2, .ref (z0 + mb)), (3, .ref (z0 + oo)), (4, .int (nI (6 * j)))] ++ T') [] sh' V' n' c' sl' := fun T' sh' V' n' c' sl' h1 h2 h3 h4 => lw_back h1 (fun T2 h5 => ih (j + 1) (by omega) T2 sh' V' n' c' sl' h5 h2 (by omega) (by omega))
      refine fs_aload_n (pc2 := 34) (kl_at_0 rfl) rfl rfl rfl ?_
      refine fs_iload (pc2 := 36) (kl_at_0 rfl) rfl rfl rfl ?_
      refine lw_scr (pc2 := 37) (kl_at_0 rfl) rfl hq0 ?_
      refine fs_bipush (pc2 := 39) (kl_at_0 rfl) rfl rfl ?_
      refine fs_iand (pc2 := 40) (kl_at_0 rfl) rfl rfl ?_
      obtain ⟨r, hr, er⟩ := lw_15 (xs (nI (6 * j)).toNatClampNeg)
      rw [er]
      have ht : ∀ q, q < 14 → (nI q).toInt = (q : Int) := fun q hq => nI_toInt (by omega)
      have hc4 : cc + 4 ≤ 601024 := by omega
      have hs4 : sl + 740 ≤ 7293034 := by omega
      rcases (by omega : r = 0 ∨ r = 1 ∨ r = 2 ∨ r = 3 ∨ r = 4 ∨ r = 5 ∨ r = 6 ∨ r = 7 ∨ r = 8 ∨ r = 9 ∨ r = 10 ∨ r = 11 ∨ r = 12 ∨ r = 13 ∨ 14 ≤ r) with rfl | rfl | rfl | rfl | rfl | rfl | rfl | rfl | rfl | rfl | rfl | rfl | rfl | rfl | hr
      · refine fs_tsw (off := 72) (pc2 := 112) (kl_at_0 rfl) rfl (by decide) (by decide) rfl (by decide) ?_
        rcases hT with rfl | ⟨u5, rfl⟩ | ⟨u5, u6, rfl⟩
        · exact lc_service_0 hext hst hA e1 e2 e3 hI (by omega) hx hLx hc4 hs4 hN
        · exact lc_service_1 hext hst hA e1 e2 e3 hI (by omega) hx hLx hc4 hs4 hN
        · exact lc_service_2 hext hst hA e1 e2 e3 hI (by omega) hx hLx hc4 hs4 hN
      · refine fs_tsw (off := 156) (pc2 := 196) (kl_at_0 rfl) rfl (by decide) (by decide) rfl (by decide) ?_
        rcases hT with rfl | ⟨u5, rfl⟩ | ⟨u5, u6, rfl⟩
        · exact lc_connect_0 hext hst hA e1 e2 e3 hI (by omega) hx hLx hc4 hs4 hN
        · exact lc_connect_1 hext hst hA e1 e2 e3 hI (by omega) hx hLx hc4 hs4 hN
        · exact lc_connect_2 hext hst hA e1 e2 e3 hI (by omega) hx hLx hc4 hs4 hN
      · refine fs_tsw (off := 260) (pc2 := 300) (kl_at_0 rfl) rfl (by decide) (by decide) rfl (by decide) ?_
        rcases hT with rfl | ⟨u5, rfl⟩ | ⟨u5, u6, rfl⟩
        · exact lc_feed_0 hext hst hA e1 e2 e3 hI (by omega) hx hLx hc4 hs4 hN
        · exact lc_feed_1 hext hst hA e1 e2 e3 hI (by omega) hx hLx hc4 hs4 hN
        · exact lc_feed_2 hext hst hA e1 e2 e3 hI (by omega) hx hLx hc4 hs4 hN
      · refine fs_tsw (off := 364) (pc2 := 404) (kl_at_0 rfl) rfl (by decide) (by decide) rfl (by decide) ?_
        rcases hT with rfl | ⟨u5, rfl⟩ | ⟨u5, u6, rfl⟩
        · exact lc_erase_0 hext hst hA e1 e2 e3 hI (by omega) hx hLx hc4 hs4 hN
        · exact lc_erase_1 hext hst hA e1 e2 e3 hI (by omega) hx hLx hc4 hs4 hN
        · exact lc_erase_2 hext hst hA e1 e2 e3 hI (by omega) hx hLx hc4 hs4 hN
      · refine fs_tsw (off := 377) (pc2 := 417) (kl_at_0 rfl) rfl (by decide) (by decide) rfl (by decide) ?_
        rcases hT with rfl | ⟨u5, rfl⟩ | ⟨u5, u6, rfl⟩
        · exact lc_send_0 hext hst hA e1 e2 e3 hI (by omega) hx hLx hc4 hs4 hN
        · exact lc_send_1 hext hst hA e1 e2 e3 hI (by omega) hx hLx hc4 hs4 hN
        · exact lc_send_2 hext hst hA e1 e2 e3 hI (by omega) hx hLx hc4 hs4 hN
      · refine fs_tsw (off := 445) (pc2 := 485) (kl_at_0 rfl) rfl (by decide) (by decide) rfl (by decide) ?_
        rcases hT with rfl | ⟨u5, rfl⟩ | ⟨u5, u6, rfl⟩
        · exact lc_grant_0 hext hst hA e1 e2 e3 hI (by omega) hx hLx hc4 hs4 hN
        · exact lc_grant_1 hext hst hA e1 e2 e3 hI (by omega) hx hLx hc4 hs4 hN
        · exact lc_grant_2 hext hst hA e1 e2 e3 hI (by omega) hx hLx hc4 hs4 hN
      · refine fs_tsw (off := 525) (pc2 := 565) (kl_at_0 rfl) rfl (by decide) (by decide) rfl (by decide) ?_
        rcases hT with rfl | ⟨u5, rfl⟩ | ⟨u5, u6, rfl⟩
        · exact lc_leave_0 hext hst hA e1 e2 e3 hI (by omega) hx hLx hc4 hs4 hN
        · exact lc_leave_1 hext hst hA e1 e2 e3 hI (by omega) hx hLx hc4 hs4 hN
        · exact lc_leave_2 hext hst hA e1 e2 e3 hI (by omega) hx hLx hc4 hs4 hN
      · refine fs_tsw (off := 573) (pc2 := 613) (kl_at_0 rfl) rfl (by decide) (by decide) rfl (by decide) ?_
        rcases hT with rfl | ⟨u5, rfl⟩ | ⟨u5, u6, rfl⟩
        · exact lc_take_0 hext hst hA e1 e2 e3 hI (by omega) hx hLx hc4 hs4 hN
        · exact lc_take_1 hext hst hA e1 e2 e3 hI (by omega) hx hLx hc4 hs4 hN
        · exact lc_take_2 hext hst hA e1 e2 e3 hI (by omega) hx hLx hc4 hs4 hN
      · refine fs_tsw (off := 629) (pc2 := 669) (kl_at_0 rfl) rfl (by decide) (by decide) rfl (by decide) ?_
        rcases hT with rfl | ⟨u5, rfl⟩ | ⟨u5, u6, rfl⟩
        · exact lc_lose_0 hext hst hA e1 e2 e3 hI (by omega) hx hLx hc4 hs4 hN
        · exact lc_lose_1 hext hst hA e1 e2 e3 hI (by omega) hx hLx hc4 hs4 hN
        · exact lc_lose_2 hext hst hA e1 e2 e3 hI (by omega) hx hLx hc4 hs4 hN
      · refine fs_tsw (off := 692) (pc2 := 732) (kl_at_0 rfl) rfl (by decide) (by decide) rfl (by decide) ?_
        rcases hT with rfl | ⟨u5, rfl⟩ | ⟨u5, u6, rfl⟩
        · exact lc_inject_0 hext hst hA e1 e2 e3 hI (by omega) hx hLx hc4 hs4 hN
        · exact lc_inject_1 hext hst hA e1 e2 e3 hI (by omega) hx hLx hc4 hs4 hN
        · exact lc_inject_2 hext hst hA e1 e2 e3 hI (by omega) hx hLx hc4 hs4 hN
      · refine fs_tsw (off := 772) (pc2 := 812) (kl_at_0 rfl) rfl (by decide) (by decide) rfl (by decide) ?_
        rcases hT with rfl | ⟨u5, rfl⟩ | ⟨u5, u6, rfl⟩
        · exact lc_receive_0 hext hst hA e1 e2 e3 hI (by omega) hx hLx hc4 hs4 hN
        · exact lc_receive_1 hext hst hA e1 e2 e3 hI (by omega) hx hLx hc4 hs4 hN
        · exact lc_receive_2 hext hst hA e1 e2 e3 hI (by omega) hx hLx hc4 hs4 hN
      · refine fs_tsw (off := 840) (pc2 := 880) (kl_at_0 rfl) rfl (by decide) (by decide) rfl (by decide) ?_
        rcases hT with rfl | ⟨u5, rfl⟩ | ⟨u5, u6, rfl⟩
        · exact lc_octet_0 hext hst hA e1 e2 e3 hI (by omega) hx hLx hc4 hs4 hN
        · exact lc_octet_1 hext hst hA e1 e2 e3 hI (by omega) hx hLx hc4 hs4 hN
        · exact lc_octet_2 hext hst hA e1 e2 e3 hI (by omega) hx hLx hc4 hs4 hN
      · refine fs_tsw (off := 865) (pc2 := 905) (kl_at_0 rfl) rfl (by decide) (by decide) rfl (by decide) ?_
        rcases hT with rfl | ⟨u5, rfl⟩ | ⟨u5, u6, rfl⟩
        · exact lc_channel_0 hext hst hA e1 e2 e3 hI (by omega) hx hLx hc4 hs4 hN
        · exact lc_channel_1 hext hst hA e1 e2 e3 hI (by omega) hx hLx hc4 hs4 hN
        · exact lc_channel_2 hext hst hA e1 e2 e3 hI (by omega) hx hLx hc4 hs4 hN
      · refine fs_tsw (off := 945) (pc2 := 985) (kl_at_0 rfl) rfl (by decide) (by decide) rfl (by decide) ?_
        rcases hT with rfl | ⟨u5, rfl⟩ | ⟨u5, u6, rfl⟩
        · exact lc_count_0 hext hst hA e1 e2 e3 hI (by omega) hx hLx hc4 hs4 hN
        · exact lc_count_1 hext hst hA e1 e2 e3 hI (by omega) hx hLx hc4 hs4 hN
        · exact lc_count_2 hext hst hA e1 e2 e3 hI (by omega) hx hLx hc4 hs4 hN
      · refine fs_tswd (pc2 := 1053) (kl_at_0 rfl) rfl (Or.inr (by rw [nI_toInt (by omega)]; omega)) (by decide) ?_
        exact hN T _ _ _ _ _ hT (hI.mono (by omega)) (by omega) (by omega)
theorem JI_0 : JI 0 (fun _ => ho0) := by
  have hc : ∀ k, CI (ch0 (64 + k)) := fun k => ⟨by show va_up (fun _ => 0) 0 (64 + k) 3 ≤ 100; rw [va_up_ne _ _ (by decide)]; decide, fun D h => (by cases h), fun _ => rfl, fun _ => rfl, fun _ => rfl, fun t ts h => (by cases h)⟩
  have hv : HV ho0 := ⟨fun k _ => hc k, fun s => Nat.zero_le _, Nat.zero_le _, by decide, Nat.le_refl _⟩
  have hd : dn ho0 [] := Or.inr (Or.inr rfl)
  exact ⟨⟨hd, hd⟩, fun i _ => ⟨hv, Nat.zero_le _, Nat.le_refl _⟩⟩
set_option maxRecDepth 100000 in
set_option maxHeartbeats 4000000 in
theorem lw_law (hext : ev_HX l D cy zF ext) (hst : l.stackTraces = false) (hA : AlOK cy z0 a0 ext) (hI : AlInit cy z0 a0 ext) (hLx : Lx ≤ 3072) (hRet : ∀ f n, Ret (some (.int 1)) f n) {sh : fl_S} {V : fl_V} (ha : a0 < c) (h0 : eAr a0 0 (fun _ => none) sh) : lQ l D cy zF z0 ext b Lx xs Ret 0 [(0, .ref b)] [] sh V c 0 0 := by
  refine fs_new (slots := [some none, some none, some none]) (pc2 := 3) (kl_at_0 rfl) rfl rfl (Nat.le_of_ble_eq_true rfl) (Nat.le_of_ble_eq_true rfl) rfl ?_
  first | refine fs_dup_r (pc2 := 4) (kl_at_0 rfl) rfl rfl ?_ | refine fs_dup_i (pc2 := 4) (kl_at_0 rfl) rfl rfl ?_
  refine lw_callc (dc := 405) (ds := 19060) (pc2 := 7) (kl_at_0 rfl) rfl rfl rfl rfl ⟨rfl, rfl⟩ (Nat.le_of_ble_eq_true rfl) rfl rfl (Nat.le_of_ble_eq_true rfl) (Nat.le_of_ble_eq_true rfl) trivial (e_Link_init (d := 4) (c := c) hI ha (by unfold eAr; rw [va_up_ne _ _ (by omega)]; exact h0) (va_up_self _ _ _) (va_up_self _ _ _) rfl) (fun v1 sh1 V1 n1 hp1 => ?_)
  obtain ⟨ea1, eb1, hz1, hk1⟩ := hp1
  cases ea1
  subst eb1
  refine fs_astore_n (pc2 := 8) (kl_at_0 rfl) rfl rfl (Nat.le_of_ble_eq_true rfl) ?_
  refine fs_new (slots := moSl (c + 374) 0) (pc2 := 11) (kl_at_0 rfl) rfl rfl (Nat.le_of_ble_eq_true rfl) (Nat.le_of_ble_eq_true rfl) rfl ?_
  first | refine fs_dup_r (pc2 := 12) (kl_at_0 rfl) rfl rfl ?_ | refine fs_dup_i (pc2 := 12) (kl_at_0 rfl) rfl rfl ?_
  refine lw_callc (dc := 48) (ds := 80000) (pc2 := 15) (kl_at_0 rfl) rfl rfl rfl rfl ⟨rfl, rfl⟩ (Nat.le_of_ble_eq_true rfl) rfl rfl (Nat.le_of_ble_eq_true rfl) (Nat.le_of_ble_eq_true rfl) trivial (m_init (d := 13) (mb := c + 374) (T := fun _ => 0) (va_up_self _ _ _) (va_up_self _ _ _) rfl (fun i _ => Nat.zero_le _)) (fun v2 sh2 V2 n2 hp2 => ?_)
  obtain ⟨ea2, eb2, hm2, hM2, hk2⟩ := hp2
  cases ea2
  subst eb2
  refine fs_astore_n (pc2 := 16) (kl_at_0 rfl) rfl rfl (Nat.le_of_ble_eq_true rfl) ?_
  refine fs_iconst (pc2 := 17) (kl_at_0 rfl) rfl rfl ?_
  refine fs_newl (pc2 := 19) (kl_at_0 rfl) rfl rfl rfl (by decide) (Nat.le_of_ble_eq_true rfl) (Nat.le_of_ble_eq_true rfl) (by decide) ?_
  refine fs_astore_n (pc2 := 20) (kl_at_0 rfl) rfl rfl (Nat.le_of_ble_eq_true rfl) ?_
  refine fs_iconst (pc2 := 21) (kl_at_0 rfl) rfl rfl ?_
  refine fs_istore (pc2 := 23) (kl_at_0 rfl) rfl rfl (Nat.le_of_ble_eq_true rfl) ?_
  have hz2 : CLZ sh2 V2 a0 c := hz1.kept (fun a a1 a2 => ⟨by rw [(hk2 a (by omega)).1, va_up_ne _ _ (by omega)], by rw [(hk2 a (by omega)).2, va_up_ne _ _ (by omega)]⟩)
  have h2 : eAr a0 0 (fun _ => none) sh2 := by unfold eAr; rw [(hk2 a0 (by omega)).1, va_up_ne _ _ (by omega), (hk1 a0 (by omega)).1, va_up_ne _ _ (by omega)]; exact h0
  refine lw_loop (K := c + 421) (c := c) (mb := c + 374) (oo := c + 420) hext hst hA rfl rfl rfl hLx hRet 512 0 rfl [] _ _ _ _ _ (Or.inl rfl) ⟨fun _ => a0, fun _ => [], [], fun _ => ho0, fun _ => 0, ?_, ?_, ?_, ?_, JI_0⟩ (Nat.le_of_ble_eq_true rfl) (Nat.le_of_ble_eq_true rfl)
  · exact (hz2.kept (fun a a1 a2 => ⟨va_up_ne _ _ (by omega), va_up_ne _ _ (by omega)⟩)).cl (by omega) (by omega) ha (by unfold eAr; dsimp only; rw [va_up_ne _ _ (by omega)]; exact h2)
  · exact hm2.mv (fun a a1 a2 => va_up_ne _ _ (by omega))
  · exact hM2.mv (fun a a1 a2 => va_up_ne _ _ (by omega))
  · exact va_up_self _ _ _
end LOOP
