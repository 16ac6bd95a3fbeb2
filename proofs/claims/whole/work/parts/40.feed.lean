section FEED
variable {cy : Nat → ClassId} {z0 : Nat} {ext : Nat → Nat → List Value → ev_H → Nat → ev_P → Prop} {d : Nat} {sh sh' : fl_S} {V V' : fl_V} {n n' K a0 c : Nat} {E : Nat → Nat} {R : Nat → List Nat} {S : List Nat} {HH : Nat → Ho}
theorem range_map_succ {α : Type} (f : Nat → α) (i : Nat) : (List.range (i + 1)).map f = (List.range i).map f ++ [f i] := by rw [List.range_succ, List.map_append]; rfl
set_option maxRecDepth 100000 in
set_option maxHeartbeats 4000000 in
theorem e_feed_loop {m : Nat} {ca cb cc cd : Int32} (hm : m ≤ 16) (hfit : S.length + m ≤ 120) {V0 : fl_V} {Ret : ev_P} (hP : ∀ (V' : fl_V), CL sh V' n K a0 c E R (S ++ (List.range m).map (fbyte ca cb cc cd)) HH → (∀ a, (a < c ∨ c + 374 ≤ a) → V' a = V0 a) → Ret (some (.int (nI (S.length + m)))) (fl_f cy z0 sh V') (z0 + n)) : ∀ (k i : Nat), i + k = m → ∀ (V : fl_V) (T : List (Nat × Value)), (T = [] ∨ ∃ w, T = [(7, .int w)]) → CL sh V n K a0 c E R (S ++ (List.range i).map (fbyte ca cb cc cd)) HH → (∀ a, (a < c ∨ c + 374 ≤ a) → V a = V0 a) → fl_R cy z0 (ev_M cy ext (d + 1)) 6 4 740 8 (some .int) kc_X6_feed Ret 43 ([(0, .ref (z0 + c)), (1, .int (nI m)), (2, .int ca), (3, .int cb), (4, .int cc), (5, .int cd), (6, .int (nI i))] ++ T) [] sh V n 0 0 := by
  intro k
  induction k with
  | zero =>
    intro i hik V T hT hL hv
    have him : i = m := by omega
    subst him
    obtain ⟨u1, ⟨gu, u2, u3⟩, u4, u5, ⟨ixs, u6⟩, u7, u8, u9⟩ := id hL
    unfold isCL at u1
    obtain ⟨so1, so2⟩ := id u5.1
    obtain ⟨io1, io2⟩ := id u6.1
    have lS : (S ++ (List.range i).map (fbyte ca cb cc cd)).length ≤ 120 := u5.2.2.1
    have eS : V (c + 370) 1 = nI (S ++ (List.range i).map (fbyte ca cb cc cd)).length := u5.2.2.2.2.1
    have eS2 : V (c + 370) 1 = nI (S.length + i) := by rw [eS]; simp
    refine fs_iload (pc2 := 45) rfl rfl rfl rfl ?_
    refine fs_iload_n (pc2 := 46) rfl rfl rfl rfl ?_
    refine fs_icmp_ge (pc2 := 49) rfl rfl rfl (fun h46 => ?_) (fun h46 => ?_)
    · refine fs_aload_n (pc2 := 113) rfl rfl rfl rfl ?_
      refine fs_getr (pc2 := 116) rfl rfl rfl (by assumption) rfl ?_
      refine fs_geti (pc2 := 119) rfl rfl rfl (by assumption) rfl ?_
      refine fs_iret rfl rfl True.intro ?_
      rw [eS2]
      exact hP V hL hv
    · exact absurd h46 (nI_nlt (Nat.le_refl _) (by omega))
  | succ k ih =>
    intro i hik V T hT hL hv
    obtain ⟨u1, ⟨gu, u2, u3⟩, u4, u5, ⟨ixs, u6⟩, u7, u8, u9⟩ := id hL
    unfold isCL at u1
    obtain ⟨so1, so2⟩ := id u5.1
    obtain ⟨io1, io2⟩ := id u6.1
    have lS : (S ++ (List.range i).map (fbyte ca cb cc cd)).length ≤ 120 := u5.2.2.1
    have eS : V (c + 370) 1 = nI (S ++ (List.range i).map (fbyte ca cb cc cd)).length := u5.2.2.2.2.1
    have er : nI i - nI i / 4 * 4 = nI (i % 4) := pk_rem (a := i) (d := 4) (by omega) (by decide) (by decide)
    have ls : (S ++ (List.range i).map (fbyte ca cb cc cd)).length < 120 := by simp; omega
    rcases hT with rfl | ⟨w, rfl⟩
    · refine fs_iload (pc2 := 45) rfl rfl rfl rfl ?_
      refine fs_iload_n (pc2 := 46) rfl rfl rfl rfl ?_
      refine fs_icmp_ge (pc2 := 49) rfl rfl rfl (fun h46 => ?_) (fun h46 => ?_)
      · exact absurd (nI_lt (by omega) (by omega)) h46
      · refine fs_iload (pc2 := 51) rfl rfl rfl rfl ?_
        refine fs_iconst (pc2 := 52) rfl rfl rfl ?_
        refine fs_icmp_ge (pc2 := 55) rfl rfl rfl (fun h52 => ?_) (fun h52 => ?_)
        · have k52 : 4 ≤ i := c_nlt h52 rfl rfl
          refine fs_iload (pc2 := 61) rfl rfl rfl rfl ?_
          refine fs_bipush (pc2 := 63) rfl rfl rfl ?_
          refine fs_icmp_ge (pc2 := 66) rfl rfl rfl (fun h63 => ?_) (fun h63 => ?_)
          · have k63 : 8 ≤ i := c_nlt h63 rfl rfl
            refine fs_iload (pc2 := 72) rfl rfl rfl rfl ?_
            refine fs_bipush (pc2 := 74) rfl rfl rfl ?_
            refine fs_icmp_ge (pc2 := 77) rfl rfl rfl (fun h74 => ?_) (fun h74 => ?_)
            · have k74 : 12 ≤ i := c_nlt h74 rfl rfl
              refine fs_iload (pc2 := 84) rfl rfl rfl rfl ?_
              refine fs_istore (pc2 := 86) rfl rfl rfl (Nat.le_of_ble_eq_true rfl) ?_
              refine fs_aload_n (pc2 := 87) rfl rfl rfl rfl ?_
              refine fs_getr (pc2 := 90) rfl rfl rfl (by assumption) rfl ?_
              refine fs_iload (pc2 := 92) rfl rfl rfl rfl ?_
              refine fs_bipush (pc2 := 94) rfl rfl rfl ?_
              refine fs_bipush (pc2 := 96) rfl rfl rfl ?_
              refine fs_iload (pc2 := 98) rfl rfl rfl rfl ?_
              refine fs_iconst (pc2 := 99) rfl rfl rfl ?_
              refine fs_irem (pc2 := 100) rfl rfl rfl (by decide) ?_
              refine fs_imul (pc2 := 101) rfl rfl rfl ?_
              refine fs_isub (pc2 := 102) rfl rfl rfl ?_
              refine fs_ishr (pc2 := 103) rfl rfl rfl ?_
              refine fs_callv (pc2 := 106) rfl rfl rfl rfl ⟨rfl, rfl⟩ (Nat.le_of_ble_eq_true rfl) (Nat.le_of_ble_eq_true rfl) (Nat.le_of_ble_eq_true rfl) (fs_rcv rfl (by assumption)) (e_Row_add u5 ls) (fun v9 sh9 V9 n9 hp9 => ?_)
              obtain ⟨ea9, eb9, ec9, hr, hf⟩ := hp9
              cases ea9
              obtain rfl := eb9.symm
              obtain rfl := ec9.symm
              have eb : bt8 (cd >>> ((24 - 8 * (nI i - nI i / 4 * 4)) &&& 31)) = fbyte ca cb cc cd i := by unfold fbyte; rw [er, if_neg (by omega), if_neg (by omega), if_neg (by omega)]
              rw [eb, List.append_assoc, ← range_map_succ] at hr
              obtain ⟨L1, F1⟩ := hL.putS hr (fun a a1 a2 => hf a a1 a2)
              refine fs_iinc (pc2 := 109) rfl rfl rfl (Nat.le_of_ble_eq_true rfl) rfl ?_
              refine fs_goto rfl rfl ?_
              rw [nI_1 i]
              exact ih (i + 1) (by omega) _ _ (Or.inr ⟨_, rfl⟩) L1 (fun a ha => by rw [hf a (by omega) (by omega), hv a ha])
            · have k74 : i < 12 := c_lt h74 rfl rfl
              refine fs_iload (pc2 := 79) rfl rfl rfl rfl ?_
              refine fs_goto rfl rfl ?_
              refine fs_istore (pc2 := 86) rfl rfl rfl (Nat.le_of_ble_eq_true rfl) ?_
              refine fs_aload_n (pc2 := 87) rfl rfl rfl rfl ?_
              refine fs_getr (pc2 := 90) rfl rfl rfl (by assumption) rfl ?_
              refine fs_iload (pc2 := 92) rfl rfl rfl rfl ?_
              refine fs_bipush (pc2 := 94) rfl rfl rfl ?_
              refine fs_bipush (pc2 := 96) rfl rfl rfl ?_
              refine fs_iload (pc2 := 98) rfl rfl rfl rfl ?_
              refine fs_iconst (pc2 := 99) rfl rfl rfl ?_
              refine fs_irem (pc2 := 100) rfl rfl rfl (by decide) ?_
              refine fs_imul (pc2 := 101) rfl rfl rfl ?_
              refine fs_isub (pc2 := 102) rfl rfl rfl ?_
              refine fs_ishr (pc2 := 103) rfl rfl rfl ?_
              refine fs_callv (pc2 := 106) rfl rfl rfl rfl ⟨rfl, rfl⟩ (Nat.le_of_ble_eq_true rfl) (Nat.le_of_ble_eq_true rfl) (Nat.le_of_ble_eq_true rfl) (fs_rcv rfl (by assumption)) (e_Row_add u5 ls) (fun v9 sh9 V9 n9 hp9 => ?_)
              obtain ⟨ea9, eb9, ec9, hr, hf⟩ := hp9
              cases ea9
              obtain rfl := eb9.symm
              obtain rfl := ec9.symm
              have eb : bt8 (cc >>> ((24 - 8 * (nI i - nI i / 4 * 4)) &&& 31)) = fbyte ca cb cc cd i := by unfold fbyte; rw [er, if_neg (by omega), if_neg (by omega), if_pos k74]
              rw [eb, List.append_assoc, ← range_map_succ] at hr
              obtain ⟨L1, F1⟩ := hL.putS hr (fun a a1 a2 => hf a a1 a2)
              refine fs_iinc (pc2 := 109) rfl rfl rfl (Nat.le_of_ble_eq_true rfl) rfl ?_
              refine fs_goto rfl rfl ?_
              rw [nI_1 i]
              exact ih (i + 1) (by omega) _ _ (Or.inr ⟨_, rfl⟩) L1 (fun a ha => by rw [hf a (by omega) (by omega), hv a ha])
          · have k63 : i < 8 := c_lt h63 rfl rfl
            refine fs_iload_n (pc2 := 67) rfl rfl rfl rfl ?_
            refine fs_goto rfl rfl ?_
            refine fs_istore (pc2 := 86) rfl rfl rfl (Nat.le_of_ble_eq_true rfl) ?_
            refine fs_aload_n (pc2 := 87) rfl rfl rfl rfl ?_
            refine fs_getr (pc2 := 90) rfl rfl rfl (by assumption) rfl ?_
            refine fs_iload (pc2 := 92) rfl rfl rfl rfl ?_
            refine fs_bipush (pc2 := 94) rfl rfl rfl ?_
            refine fs_bipush (pc2 := 96) rfl rfl rfl ?_
            refine fs_iload (pc2 := 98) rfl rfl rfl rfl ?_
            refine fs_iconst (pc2 := 99) rfl rfl rfl ?_
            refine fs_irem (pc2 := 100) rfl rfl rfl (by decide) ?_
            refine fs_imul (pc2 := 101) rfl rfl rfl ?_
            refine fs_isub (pc2 := 102) rfl rfl rfl ?_
            refine fs_ishr (pc2 := 103) rfl rfl rfl ?_
            refine fs_callv (pc2 := 106) rfl rfl rfl rfl ⟨rfl, rfl⟩ (Nat.le_of_ble_eq_true rfl) (Nat.le_of_ble_eq_true rfl) (Nat.le_of_ble_eq_true rfl) (fs_rcv rfl (by assumption)) (e_Row_add u5 ls) (fun v9 sh9 V9 n9 hp9 => ?_)
            obtain ⟨ea9, eb9, ec9, hr, hf⟩ := hp9
            cases ea9
            obtain rfl := eb9.symm
            obtain rfl := ec9.symm
            have eb : bt8 (cb >>> ((24 - 8 * (nI i - nI i / 4 * 4)) &&& 31)) = fbyte ca cb cc cd i := by unfold fbyte; rw [er, if_neg (by omega), if_pos k63]
            rw [eb, List.append_assoc, ← range_map_succ] at hr
            obtain ⟨L1, F1⟩ := hL.putS hr (fun a a1 a2 => hf a a1 a2)
            refine fs_iinc (pc2 := 109) rfl rfl rfl (Nat.le_of_ble_eq_true rfl) rfl ?_
            refine fs_goto rfl rfl ?_
            rw [nI_1 i]
            exact ih (i + 1) (by omega) _ _ (Or.inr ⟨_, rfl⟩) L1 (fun a ha => by rw [hf a (by omega) (by omega), hv a ha])
        · have k52 : i < 4 := c_lt h52 rfl rfl
          refine fs_iload_n (pc2 := 56) rfl rfl rfl rfl ?_
          refine fs_goto rfl rfl ?_
          refine fs_istore (pc2 := 86) rfl rfl rfl (Nat.le_of_ble_eq_true rfl) ?_
          refine fs_aload_n (pc2 := 87) rfl rfl rfl rfl ?_
          refine fs_getr (pc2 := 90) rfl rfl rfl (by assumption) rfl ?_
          refine fs_iload (pc2 := 92) rfl rfl rfl rfl ?_
          refine fs_bipush (pc2 := 94) rfl rfl rfl ?_
          refine fs_bipush (pc2 := 96) rfl rfl rfl ?_
          refine fs_iload (pc2 := 98) rfl rfl rfl rfl ?_
          refine fs_iconst (pc2 := 99) rfl rfl rfl ?_
          refine fs_irem (pc2 := 100) rfl rfl rfl (by decide) ?_
          refine fs_imul (pc2 := 101) rfl rfl rfl ?_
          refine fs_isub (pc2 := 102) rfl rfl rfl ?_
          refine fs_ishr (pc2 := 103) rfl rfl rfl ?_
          refine fs_callv (pc2 := 106) rfl rfl rfl rfl ⟨rfl, rfl⟩ (Nat.le_of_ble_eq_true rfl) (Nat.le_of_ble_eq_true rfl) (Nat.le_of_ble_eq_true rfl) (fs_rcv rfl (by assumption)) (e_Row_add u5 ls) (fun v9 sh9 V9 n9 hp9 => ?_)
          obtain ⟨ea9, eb9, ec9, hr, hf⟩ := hp9
          cases ea9
          obtain rfl := eb9.symm
          obtain rfl := ec9.symm
          have eb : bt8 (ca >>> ((24 - 8 * (nI i - nI i / 4 * 4)) &&& 31)) = fbyte ca cb cc cd i := by unfold fbyte; rw [er, if_pos k52]
          rw [eb, List.append_assoc, ← range_map_succ] at hr
          obtain ⟨L1, F1⟩ := hL.putS hr (fun a a1 a2 => hf a a1 a2)
          refine fs_iinc (pc2 := 109) rfl rfl rfl (Nat.le_of_ble_eq_true rfl) rfl ?_
          refine fs_goto rfl rfl ?_
          rw [nI_1 i]
          exact ih (i + 1) (by omega) _ _ (Or.inr ⟨_, rfl⟩) L1 (fun a ha => by rw [hf a (by omega) (by omega), hv a ha])
    · refine fs_iload (pc2 := 45) rfl rfl rfl rfl ?_
      refine fs_iload_n (pc2 := 46) rfl rfl rfl rfl ?_
      refine fs_icmp_ge (pc2 := 49) rfl rfl rfl (fun h46 => ?_) (fun h46 => ?_)
      · exact absurd (nI_lt (by omega) (by omega)) h46
      · refine fs_iload (pc2 := 51) rfl rfl rfl rfl ?_
        refine fs_iconst (pc2 := 52) rfl rfl rfl ?_
        refine fs_icmp_ge (pc2 := 55) rfl rfl rfl (fun h52 => ?_) (fun h52 => ?_)
        · have k52 : 4 ≤ i := c_nlt h52 rfl rfl
          refine fs_iload (pc2 := 61) rfl rfl rfl rfl ?_
          refine fs_bipush (pc2 := 63) rfl rfl rfl ?_
          refine fs_icmp_ge (pc2 := 66) rfl rfl rfl (fun h63 => ?_) (fun h63 => ?_)
          · have k63 : 8 ≤ i := c_nlt h63 rfl rfl
            refine fs_iload (pc2 := 72) rfl rfl rfl rfl ?_
            refine fs_bipush (pc2 := 74) rfl rfl rfl ?_
            refine fs_icmp_ge (pc2 := 77) rfl rfl rfl (fun h74 => ?_) (fun h74 => ?_)
            · have k74 : 12 ≤ i := c_nlt h74 rfl rfl
              refine fs_iload (pc2 := 84) rfl rfl rfl rfl ?_
              refine fs_istore (pc2 := 86) rfl rfl rfl (Nat.le_of_ble_eq_true rfl) ?_
              refine fs_aload_n (pc2 := 87) rfl rfl rfl rfl ?_
              refine fs_getr (pc2 := 90) rfl rfl rfl (by assumption) rfl ?_
              refine fs_iload (pc2 := 92) rfl rfl rfl rfl ?_
              refine fs_bipush (pc2 := 94) rfl rfl rfl ?_
              refine fs_bipush (pc2 := 96) rfl rfl rfl ?_
              refine fs_iload (pc2 := 98) rfl rfl rfl rfl ?_
              refine fs_iconst (pc2 := 99) rfl rfl rfl ?_
              refine fs_irem (pc2 := 100) rfl rfl rfl (by decide) ?_
              refine fs_imul (pc2 := 101) rfl rfl rfl ?_
              refine fs_isub (pc2 := 102) rfl rfl rfl ?_
              refine fs_ishr (pc2 := 103) rfl rfl rfl ?_
              refine fs_callv (pc2 := 106) rfl rfl rfl rfl ⟨rfl, rfl⟩ (Nat.le_of_ble_eq_true rfl) (Nat.le_of_ble_eq_true rfl) (Nat.le_of_ble_eq_true rfl) (fs_rcv rfl (by assumption)) (e_Row_add u5 ls) (fun v9 sh9 V9 n9 hp9 => ?_)
              obtain ⟨ea9, eb9, ec9, hr, hf⟩ := hp9
              cases ea9
              obtain rfl := eb9.symm
              obtain rfl := ec9.symm
              have eb : bt8 (cd >>> ((24 - 8 * (nI i - nI i / 4 * 4)) &&& 31)) = fbyte ca cb cc cd i := by unfold fbyte; rw [er, if_neg (by omega), if_neg (by omega), if_neg (by omega)]
              rw [eb, List.append_assoc, ← range_map_succ] at hr
              obtain ⟨L1, F1⟩ := hL.putS hr (fun a a1 a2 => hf a a1 a2)
              refine fs_iinc (pc2 := 109) rfl rfl rfl (Nat.le_of_ble_eq_true rfl) rfl ?_
              refine fs_goto rfl rfl ?_
              rw [nI_1 i]
              exact ih (i + 1) (by omega) _ _ (Or.inr ⟨_, rfl⟩) L1 (fun a ha => by rw [hf a (by omega) (by omega), hv a ha])
            · have k74 : i < 12 := c_lt h74 rfl rfl
              refine fs_iload (pc2 := 79) rfl rfl rfl rfl ?_
              refine fs_goto rfl rfl ?_
              refine fs_istore (pc2 := 86) rfl rfl rfl (Nat.le_of_ble_eq_true rfl) ?_
              refine fs_aload_n (pc2 := 87) rfl rfl rfl rfl ?_
              refine fs_getr (pc2 := 90) rfl rfl rfl (by assumption) rfl ?_
              refine fs_iload (pc2 := 92) rfl rfl rfl rfl ?_
              refine fs_bipush (pc2 := 94) rfl rfl rfl ?_
              refine fs_bipush (pc2 := 96) rfl rfl rfl ?_
              refine fs_iload (pc2 := 98) rfl rfl rfl rfl ?_
              refine fs_iconst (pc2 := 99) rfl rfl rfl ?_
              refine fs_irem (pc2 := 100) rfl rfl rfl (by decide) ?_
              refine fs_imul (pc2 := 101) rfl rfl rfl ?_
              refine fs_isub (pc2 := 102) rfl rfl rfl ?_
              refine fs_ishr (pc2 := 103) rfl rfl rfl ?_
              refine fs_callv (pc2 := 106) rfl rfl rfl rfl ⟨rfl, rfl⟩ (Nat.le_of_ble_eq_true rfl) (Nat.le_of_ble_eq_true rfl) (Nat.le_of_ble_eq_true rfl) (fs_rcv rfl (by assumption)) (e_Row_add u5 ls) (fun v9 sh9 V9 n9 hp9 => ?_)
              obtain ⟨ea9, eb9, ec9, hr, hf⟩ := hp9
              cases ea9
              obtain rfl := eb9.symm
              obtain rfl := ec9.symm
              have eb : bt8 (cc >>> ((24 - 8 * (nI i - nI i / 4 * 4)) &&& 31)) = fbyte ca cb cc cd i := by unfold fbyte; rw [er, if_neg (by omega), if_neg (by omega), if_pos k74]
              rw [eb, List.append_assoc, ← range_map_succ] at hr
              obtain ⟨L1, F1⟩ := hL.putS hr (fun a a1 a2 => hf a a1 a2)
              refine fs_iinc (pc2 := 109) rfl rfl rfl (Nat.le_of_ble_eq_true rfl) rfl ?_
              refine fs_goto rfl rfl ?_
              rw [nI_1 i]
              exact ih (i + 1) (by omega) _ _ (Or.inr ⟨_, rfl⟩) L1 (fun a ha => by rw [hf a (by omega) (by omega), hv a ha])
          · have k63 : i < 8 := c_lt h63 rfl rfl
            refine fs_iload_n (pc2 := 67) rfl rfl rfl rfl ?_
            refine fs_goto rfl rfl ?_
            refine fs_istore (pc2 := 86) rfl rfl rfl (Nat.le_of_ble_eq_true rfl) ?_
            refine fs_aload_n (pc2 := 87) rfl rfl rfl rfl ?_
            refine fs_getr (pc2 := 90) rfl rfl rfl (by assumption) rfl ?_
            refine fs_iload (pc2 := 92) rfl rfl rfl rfl ?_
            refine fs_bipush (pc2 := 94) rfl rfl rfl ?_
            refine fs_bipush (pc2 := 96) rfl rfl rfl ?_
            refine fs_iload (pc2 := 98) rfl rfl rfl rfl ?_
            refine fs_iconst (pc2 := 99) rfl rfl rfl ?_
            refine fs_irem (pc2 := 100) rfl rfl rfl (by decide) ?_
            refine fs_imul (pc2 := 101) rfl rfl rfl ?_
            refine fs_isub (pc2 := 102) rfl rfl rfl ?_
            refine fs_ishr (pc2 := 103) rfl rfl rfl ?_
            refine fs_callv (pc2 := 106) rfl rfl rfl rfl ⟨rfl, rfl⟩ (Nat.le_of_ble_eq_true rfl) (Nat.le_of_ble_eq_true rfl) (Nat.le_of_ble_eq_true rfl) (fs_rcv rfl (by assumption)) (e_Row_add u5 ls) (fun v9 sh9 V9 n9 hp9 => ?_)
            obtain ⟨ea9, eb9, ec9, hr, hf⟩ := hp9
            cases ea9
            obtain rfl := eb9.symm
            obtain rfl := ec9.symm
            have eb : bt8 (cb >>> ((24 - 8 * (nI i - nI i / 4 * 4)) &&& 31)) = fbyte ca cb cc cd i := by unfold fbyte; rw [er, if_neg (by omega), if_pos k63]
            rw [eb, List.append_assoc, ← range_map_succ] at hr
            obtain ⟨L1, F1⟩ := hL.putS hr (fun a a1 a2 => hf a a1 a2)
            refine fs_iinc (pc2 := 109) rfl rfl rfl (Nat.le_of_ble_eq_true rfl) rfl ?_
            refine fs_goto rfl rfl ?_
            rw [nI_1 i]
            exact ih (i + 1) (by omega) _ _ (Or.inr ⟨_, rfl⟩) L1 (fun a ha => by rw [hf a (by omega) (by omega), hv a ha])
        · have k52 : i < 4 := c_lt h52 rfl rfl
          refine fs_iload_n (pc2 := 56) rfl rfl rfl rfl ?_
          refine fs_goto rfl rfl ?_
          refine fs_istore (pc2 := 86) rfl rfl rfl (Nat.le_of_ble_eq_true rfl) ?_
          refine fs_aload_n (pc2 := 87) rfl rfl rfl rfl ?_
          refine fs_getr (pc2 := 90) rfl rfl rfl (by assumption) rfl ?_
          refine fs_iload (pc2 := 92) rfl rfl rfl rfl ?_
          refine fs_bipush (pc2 := 94) rfl rfl rfl ?_
          refine fs_bipush (pc2 := 96) rfl rfl rfl ?_
          refine fs_iload (pc2 := 98) rfl rfl rfl rfl ?_
          refine fs_iconst (pc2 := 99) rfl rfl rfl ?_
          refine fs_irem (pc2 := 100) rfl rfl rfl (by decide) ?_
          refine fs_imul (pc2 := 101) rfl rfl rfl ?_
          refine fs_isub (pc2 := 102) rfl rfl rfl ?_
          refine fs_ishr (pc2 := 103) rfl rfl rfl ?_
          refine fs_callv (pc2 := 106) rfl rfl rfl rfl ⟨rfl, rfl⟩ (Nat.le_of_ble_eq_true rfl) (Nat.le_of_ble_eq_true rfl) (Nat.le_of_ble_eq_true rfl) (fs_rcv rfl (by assumption)) (e_Row_add u5 ls) (fun v9 sh9 V9 n9 hp9 => ?_)
          obtain ⟨ea9, eb9, ec9, hr, hf⟩ := hp9
          cases ea9
          obtain rfl := eb9.symm
          obtain rfl := ec9.symm
          have eb : bt8 (ca >>> ((24 - 8 * (nI i - nI i / 4 * 4)) &&& 31)) = fbyte ca cb cc cd i := by unfold fbyte; rw [er, if_pos k52]
          rw [eb, List.append_assoc, ← range_map_succ] at hr
          obtain ⟨L1, F1⟩ := hL.putS hr (fun a a1 a2 => hf a a1 a2)
          refine fs_iinc (pc2 := 109) rfl rfl rfl (Nat.le_of_ble_eq_true rfl) rfl ?_
          refine fs_goto rfl rfl ?_
          rw [nI_1 i]
          exact ih (i + 1) (by omega) _ _ (Or.inr ⟨_, rfl⟩) L1 (fun a ha => by rw [hf a (by omega) (by omega), hv a ha])
set_option maxRecDepth 100000 in
set_option maxHeartbeats 4000000 in
theorem e_feed (hL : CL sh V n K a0 c E R S HH) {m : Nat} {ca cb cc cd : Int32} (hm : m ≤ 16) (hfit : S.length + m ≤ 120) : fl_M cy z0 ext (d + 2) m_X6_feed [.ref (z0 + c), .int (nI m), .int ca, .int cb, .int cc, .int cd] sh V n (fun v sh' V' n' => v = some (.int (nI (S.length + m))) ∧ (∃ E' R', CL sh' V' n' K a0 c E' R' (S ++ (List.range m).map (fbyte ca cb cc cd)) HH) ∧ FC c K sh V n sh' V' n') := by
  obtain ⟨u1, ⟨gu, u2, u3⟩, u4, u5, ⟨ixs, u6⟩, u7, u8, u9⟩ := id hL
  unfold isCL at u1
  obtain ⟨so1, so2⟩ := id u5.1
  obtain ⟨io1, io2⟩ := id u6.1
  have lS : S.length ≤ 120 := u5.2.2.1
  have eS : V (c + 370) 1 = nI S.length := u5.2.2.2.2.1
  refine fs_body rfl rfl (fun Ret hP => ?_)
  refine fs_iload_n (pc2 := 1) rfl rfl rfl rfl ?_
  refine fs_if_lt (pc2 := 4) rfl rfl rfl (fun h1 => ?_) (fun h1 => ?_)
  · exact absurd h1 (nI_pos (by omega))
  · refine fs_iload_n (pc2 := 5) rfl rfl rfl rfl ?_
    refine fs_bipush (pc2 := 7) rfl rfl rfl ?_
    refine fs_icmp_le (pc2 := 10) rfl rfl rfl (fun h7 => ?_) (fun h7 => ?_)
    · refine fs_aload_n (pc2 := 19) rfl rfl rfl rfl ?_
      refine fs_getr (pc2 := 22) rfl rfl rfl (by assumption) rfl ?_
      refine fs_geti (pc2 := 25) rfl rfl rfl (by assumption) rfl ?_
      refine fs_iload_n (pc2 := 26) rfl rfl rfl rfl ?_
      refine fs_iadd (pc2 := 27) rfl rfl rfl ?_
      refine fs_bipush (pc2 := 29) rfl rfl rfl ?_
      refine fs_icmp_le (pc2 := 32) rfl rfl rfl (fun h29 => ?_) (fun h29 => ?_)
      · refine fs_iconst (pc2 := 41) rfl rfl rfl ?_
        refine fs_istore (pc2 := 43) rfl rfl rfl (Nat.le_of_ble_eq_true rfl) ?_
        exact e_feed_loop hm hfit (fun V' h1 h2 => hP _ _ _ _ ⟨rfl, ⟨E, R, h1⟩, FC.same h2⟩) m 0 (by omega) V [] (Or.inl rfl) (by simpa using hL) (fun _ _ => rfl)
      · exact absurd (by rw [eS, nI_add]; exact nI_le (a := S.length + m) (b := 120) hfit (by decide)) h29
    · exact absurd (nI_le (a := m) (b := 16) hm (by decide)) h7
set_option maxRecDepth 100000 in
set_option maxHeartbeats 4000000 in
theorem e_inject_full (hL : CL sh V n K a0 c E R S HH) {i : Nat} (hi : i < 2) {num more : Nat} (hnum : num ≤ 65535) (hmore : more ≤ 100) (hfull : 32 < (HH i).2.2.2.1.length + ((S.length + 30) / 27)) : fl_M cy z0 ext (d + 13) m_X6_inject [.ref (z0 + c), .int (nI i), .int (nI num), .int (nI more)] sh V n (fun v sh' V' n' => v = some (.int (-2)) ∧ (∃ E' R', CL sh' V' n' K a0 c E' R' S HH) ∧ FC c K sh V n sh' V' n') := by
  obtain ⟨u1, ⟨gu, u2, u3⟩, u4, u5, ⟨ixs, u6⟩, u7, u8, u9⟩ := id hL
  unfold isCL at u1
  obtain ⟨so1, so2⟩ := id u5.1
  obtain ⟨io1, io2⟩ := id u6.1
  have lS : S.length ≤ 120 := u5.2.2.1
  have eS : V (c + 370) 1 = nI S.length := u5.2.2.2.2.1
  have hHo : isHostB (nI i) = true := by rcases i with _ | _ | i <;> first | rfl | omega
  have hi1 : vp_in (nI i) 2 := vp_in_nI hi (by decide)
  have hi2 : gu (nI i).toNatClampNeg = some (c + 2 + 184 * i) := by rw [nI_clamp (by omega)]; exact u3 i hi
  have hH := u4 i hi
  obtain ⟨hb, hhb⟩ : ∃ hb, hb = c + 2 + 184 * i := ⟨_, rfl⟩
  rw [← hhb] at hH hi2
  obtain ⟨⟨f1, ⟨gc, f2, f3⟩, f4, f5, f6⟩, HC, HS, ⟨wh, HW⟩, HQ, HB, HG, HI⟩ := id hH
  unfold isHo at f1
  have y1 := HW.1.1
  have ep : (4 + V (c + 370) 1 + 27 - 1) / 27 = nI ((S.length + 30) / 27) := by
    rw [eS, show (4 : Int32) + nI S.length + 27 - 1 = nI (S.length + 30) from by rw [show (4 : Int32) = nI 4 from rfl, show (27 : Int32) = nI 27 from rfl, nI_add, nI_add, show 4 + S.length + 27 = (S.length + 30) + 1 by omega, nI_pred]]
    exact pk_div (a := S.length + 30) (d := 27) (by omega) (by decide) (by decide)
  obtain ⟨p, hp⟩ : ∃ p, p = ((S.length + 30) / 27) := ⟨_, rfl⟩
  rw [← hp] at ep
  have lp : p ≤ 5 := by omega
  rw [← hp] at hfull
  refine fs_body rfl rfl (fun Ret hP => ?_)
  refine fs_iload_n (pc2 := 1) rfl rfl rfl rfl ?_
  refine fs_calls (pc2 := 4) rfl rfl rfl rfl rfl rfl ⟨rfl, rfl⟩ (Nat.le_of_ble_eq_true rfl) (Nat.le_of_ble_eq_true rfl) (Nat.le_of_ble_eq_true rfl) (e_isHost (u := nI i)) (fun v9 sh9 V9 n9 hp9 => ?_)
  obtain ⟨ea9, eb9, ec9, hv9⟩ := hp9
  cases ea9
  obtain rfl := eb9.symm
  obtain rfl := ec9.symm
  cases hv9
  rw [hHo]
  refine fs_if_eq (pc2 := 7) rfl rfl rfl (fun h4 => ?_) (fun h4 => ?_)
  · exact absurd h4 (by decide)
  · refine fs_iload_n (pc2 := 8) rfl rfl rfl rfl ?_
    refine fs_if_lt (pc2 := 11) rfl rfl rfl (fun h8 => ?_) (fun h8 => ?_)
    · exact absurd h8 (nI_pos (by omega))
    · refine fs_iload_n (pc2 := 12) rfl rfl rfl rfl ?_
      refine fs_ldc (pc2 := 14) rfl rfl rfl ?_
      refine fs_icmp_gt (pc2 := 17) rfl rfl rfl (fun h14 => ?_) (fun h14 => ?_)
      · exact absurd (nI_le (a := num) (b := 65535) hnum (by decide)) h14
      · refine fs_iload_n (pc2 := 18) rfl rfl rfl rfl ?_
        refine fs_if_lt (pc2 := 21) rfl rfl rfl (fun h18 => ?_) (fun h18 => ?_)
        · exact absurd h18 (nI_pos (by omega))
        · refine fs_iload_n (pc2 := 22) rfl rfl rfl rfl ?_
          refine fs_bipush (pc2 := 24) rfl rfl rfl ?_
          refine fs_icmp_le (pc2 := 27) rfl rfl rfl (fun h24 => ?_) (fun h24 => ?_)
          · refine fs_aload_n (pc2 := 36) rfl rfl rfl rfl ?_
            refine fs_getr (pc2 := 39) rfl rfl rfl (by assumption) rfl ?_
            refine fs_iload_n (pc2 := 40) rfl rfl rfl rfl ?_
            refine fs_aald (pc2 := 41) rfl rfl rfl (by assumption) hi1 hi2 ?_
            refine fs_getr (pc2 := 44) rfl rfl rfl (by assumption) rfl ?_
            refine fs_astore (pc2 := 46) rfl rfl rfl (Nat.le_of_ble_eq_true rfl) ?_
            refine fs_iconst (pc2 := 47) rfl rfl rfl ?_
            refine fs_aload_n (pc2 := 48) rfl rfl rfl rfl ?_
            refine fs_getr (pc2 := 51) rfl rfl rfl (by assumption) rfl ?_
            refine fs_geti (pc2 := 54) rfl rfl rfl (by assumption) rfl ?_
            refine fs_iadd (pc2 := 55) rfl rfl rfl ?_
            refine fs_bipush (pc2 := 57) rfl rfl rfl ?_
            refine fs_iadd (pc2 := 58) rfl rfl rfl ?_
            refine fs_iconst (pc2 := 59) rfl rfl rfl ?_
            refine fs_isub (pc2 := 60) rfl rfl rfl ?_
            refine fs_bipush (pc2 := 62) rfl rfl rfl ?_
            refine fs_idiv (pc2 := 63) rfl rfl rfl (by decide) ?_
            refine fs_istore (pc2 := 65) rfl rfl rfl (Nat.le_of_ble_eq_true rfl) ?_
            refine fs_aload (pc2 := 67) rfl rfl rfl rfl ?_
            refine fs_iload (pc2 := 69) rfl rfl rfl rfl ?_
            refine fs_callv (pc2 := 72) rfl rfl rfl rfl ⟨rfl, rfl⟩ (Nat.le_of_ble_eq_true rfl) (Nat.le_of_ble_eq_true rfl) (Nat.le_of_ble_eq_true rfl) (fs_rcv rfl (by assumption)) (by rw [ep]; exact e_Way_hasRoomFor (by omega) HW) (fun v9 sh9 V9 n9 hp9 => ?_)
            obtain ⟨ea9, eb9, ec9, hv9⟩ := hp9
            cases ea9
            obtain rfl := eb9.symm
            obtain rfl := ec9.symm
            cases hv9
            refine fs_if_ne (pc2 := 75) rfl rfl rfl (fun h72 => ?_) (fun h72 => ?_)
            · exact absurd (by rw [decide_eq_false (by omega)]; rfl) h72
            · refine fs_bipush (pc2 := 77) rfl rfl rfl ?_
              refine fs_iret rfl rfl True.intro ?_
              exact hP _ _ _ _ ⟨rfl, ⟨_, _, hL⟩, FC.refl⟩
          · exact absurd (nI_le (a := more) (b := 100) hmore (by decide)) h24
set_option maxRecDepth 100000 in
set_option maxHeartbeats 4000000 in
theorem e_inject_loop {i p num more : Nat} (hi : i < 2) (lp : p ≤ 5) (hfit : (HH i).2.2.2.1.length + p ≤ 32) {V0 : fl_V} {Ret : ev_P} (hP : ∀ (V' : fl_V), CL sh V' n K a0 c E R S (va_up HH i (hoW (HH i) ((HH i).2.2.2.1 ++ (List.range p).map (injPk (injUnit S num more))))) → (∀ a, (a < c ∨ c + 374 ≤ a) → V' a = V0 a) → Ret (some (.int (nI p))) (fl_f cy z0 sh V') (z0 + n)) : ∀ (k j : Nat), j + k = p → ∀ (V : fl_V), CL sh V n K a0 c E R S (va_up HH i (hoW (HH i) ((HH i).2.2.2.1 ++ (List.range j).map (injPk (injUnit S num more))))) → Row sh V (c + 372) 124 (injUnit S num more) → (∀ a, (a < c ∨ c + 374 ≤ a) → V a = V0 a) → fl_R cy z0 (ev_M cy ext (d + 12)) 6 4 740 7 (some .int) kc_X6_inject Ret 131 [(0, .ref (z0 + c)), (1, .int (nI i)), (2, .int (nI num)), (3, .int (nI more)), (4, .ref (z0 + (c + 2 + 184 * i + 81))), (5, .int (nI p)), (6, .int (nI j))] [] sh V n 0 0 := by
  intro k
  induction k with
  | zero =>
    intro j hjk V hL hU hv
    have hjp : j = p := by omega
    subst hjp
    refine fs_iload (pc2 := 133) rfl rfl rfl rfl ?_
    refine fs_iload (pc2 := 135) rfl rfl rfl rfl ?_
    refine fs_icmp_ge (pc2 := 138) rfl rfl rfl (fun h135 => ?_) (fun h135 => ?_)
    · refine fs_iload (pc2 := 161) rfl rfl rfl rfl ?_
      refine fs_iret rfl rfl True.intro ?_
      exact hP V hL hv
    · exact absurd h135 (nI_nlt (Nat.le_refl _) (by omega))
  | succ k ih =>
    intro j hjk V hL hU hv
    obtain ⟨u1, ⟨gu, u2, u3⟩, u4, u5, ⟨ixs, u6⟩, u7, u8, u9⟩ := id hL
    unfold isCL at u1
    obtain ⟨so1, so2⟩ := id u5.1
    obtain ⟨io1, io2⟩ := id u6.1
    have lS : S.length ≤ 120 := u5.2.2.1
    have eS : V (c + 370) 1 = nI S.length := u5.2.2.2.2.1
    have hH := u4 i hi
    rw [va_up_self] at hH
    obtain ⟨wh, HW⟩ := hH.2.2.2.1
    have y1 := HW.1.1
    have ej : nI j * 27 = nI (j * 27) := pk_mul j 27
    refine fs_iload (pc2 := 133) rfl rfl rfl rfl ?_
    refine fs_iload (pc2 := 135) rfl rfl rfl rfl ?_
    refine fs_icmp_ge (pc2 := 138) rfl rfl rfl (fun h135 => ?_) (fun h135 => ?_)
    · exact absurd (nI_lt (by omega) (by omega)) h135
    · refine fs_aload (pc2 := 140) rfl rfl rfl rfl ?_
      refine fs_aload_n (pc2 := 141) rfl rfl rfl rfl ?_
      refine fs_getr (pc2 := 144) rfl rfl rfl (by assumption) rfl ?_
      refine fs_iload (pc2 := 146) rfl rfl rfl rfl ?_
      refine fs_bipush (pc2 := 148) rfl rfl rfl ?_
      refine fs_imul (pc2 := 149) rfl rfl rfl ?_
      refine fs_iconst (pc2 := 150) rfl rfl rfl ?_
      refine fs_callv (pc2 := 153) rfl rfl rfl rfl ⟨rfl, rfl⟩ (Nat.le_of_ble_eq_true rfl) (Nat.le_of_ble_eq_true rfl) (Nat.le_of_ble_eq_true rfl) (fs_rcv rfl (by assumption)) (by rw [ej]; exact e_Way_put (sn := false) HW hU (by omega) (by simp; omega) (by omega)) (fun v9 sh9 V9 n9 hp9 => ?_)
      obtain ⟨ea9, eb9, ec9, W1, hf1⟩ := hp9
      cases ea9
      obtain rfl := eb9.symm
      obtain rfl := ec9.symm
      have W2 : Way sh V9 (c + 2 + 184 * i + 81) wh ((HH i).2.2.2.1 ++ (List.range (j + 1)).map (injPk (injUnit S num more))) := by rw [range_map_succ, ← List.append_assoc]; exact W1
      have k1 := hH.putW W2 (fun a ha => hf1 a (by omega))
      obtain ⟨L1, F1⟩ := hL.putB hi k1 (Fr.same (fun a ha => hf1 a (by omega)))
      have L2 : CL sh V9 n K a0 c E R S (va_up HH i (hoW (HH i) ((HH i).2.2.2.1 ++ (List.range (j + 1)).map (injPk (injUnit S num more))))) := by
        have q := L1
        rw [va_up2] at q
        have r1 : va_up E i (E i) = E := by funext z; unfold va_up; split <;> simp_all
        have r2 : va_up R i (R i) = R := by funext z; unfold va_up; split <;> simp_all
        rw [r1, r2] at q
        exact q
      refine fs_iinc (pc2 := 156) rfl rfl rfl (Nat.le_of_ble_eq_true rfl) rfl ?_
      refine fs_goto rfl rfl ?_
      rw [nI_1 j]
      exact ih (j + 1) (by omega) _ L2 (hU.kept (hf1 _ (by omega)) (hf1 _ (by omega))) (fun a ha => by rw [hf1 a (by omega), hv a ha])
set_option maxRecDepth 100000 in
set_option maxHeartbeats 4000000 in
theorem e_inject (hL : CL sh V n K a0 c E R S HH) {i : Nat} (hi : i < 2) {num more : Nat} (hnum : num ≤ 65535) (hmore : more ≤ 100) (hfit : (HH i).2.2.2.1.length + ((S.length + 30) / 27) ≤ 32) : fl_M cy z0 ext (d + 13) m_X6_inject [.ref (z0 + c), .int (nI i), .int (nI num), .int (nI more)] sh V n (fun v sh' V' n' => v = some (.int (nI ((S.length + 30) / 27))) ∧ (∃ E' R', CL sh' V' n' K a0 c E' R' S (va_up HH i (hoW (HH i) ((HH i).2.2.2.1 ++ (List.range ((S.length + 30) / 27)).map (injPk (injUnit S num more)))))) ∧ FC c K sh V n sh' V' n') := by
  obtain ⟨u1, ⟨gu, u2, u3⟩, u4, u5, ⟨ixs, u6⟩, u7, u8, u9⟩ := id hL
  unfold isCL at u1
  obtain ⟨so1, so2⟩ := id u5.1
  obtain ⟨io1, io2⟩ := id u6.1
  have lS : S.length ≤ 120 := u5.2.2.1
  have eS : V (c + 370) 1 = nI S.length := u5.2.2.2.2.1
  have hHo : isHostB (nI i) = true := by rcases i with _ | _ | i <;> first | rfl | omega
  have hi1 : vp_in (nI i) 2 := vp_in_nI hi (by decide)
  have hi2 : gu (nI i).toNatClampNeg = some (c + 2 + 184 * i) := by rw [nI_clamp (by omega)]; exact u3 i hi
  have hH := u4 i hi
  obtain ⟨hb, hhb⟩ : ∃ hb, hb = c + 2 + 184 * i := ⟨_, rfl⟩
  rw [← hhb] at hH hi2
  obtain ⟨⟨f1, ⟨gc, f2, f3⟩, f4, f5, f6⟩, HC, HS, ⟨wh, HW⟩, HQ, HB, HG, HI⟩ := id hH
  unfold isHo at f1
  have y1 := HW.1.1
  have ep : (4 + V (c + 370) 1 + 27 - 1) / 27 = nI ((S.length + 30) / 27) := by
    rw [eS, show (4 : Int32) + nI S.length + 27 - 1 = nI (S.length + 30) from by rw [show (4 : Int32) = nI 4 from rfl, show (27 : Int32) = nI 27 from rfl, nI_add, nI_add, show 4 + S.length + 27 = (S.length + 30) + 1 by omega, nI_pred]]
    exact pk_div (a := S.length + 30) (d := 27) (by omega) (by decide) (by decide)
  obtain ⟨p, hp⟩ : ∃ p, p = ((S.length + 30) / 27) := ⟨_, rfl⟩
  rw [← hp] at ep
  have lp : p ≤ 5 := by omega
  rw [← hp] at hfit
  refine fs_body rfl rfl (fun Ret hP => ?_)
  refine fs_iload_n (pc2 := 1) rfl rfl rfl rfl ?_
  refine fs_calls (pc2 := 4) rfl rfl rfl rfl rfl rfl ⟨rfl, rfl⟩ (Nat.le_of_ble_eq_true rfl) (Nat.le_of_ble_eq_true rfl) (Nat.le_of_ble_eq_true rfl) (e_isHost (u := nI i)) (fun v9 sh9 V9 n9 hp9 => ?_)
  obtain ⟨ea9, eb9, ec9, hv9⟩ := hp9
  cases ea9
  obtain rfl := eb9.symm
  obtain rfl := ec9.symm
  cases hv9
  rw [hHo]
  refine fs_if_eq (pc2 := 7) rfl rfl rfl (fun h4 => ?_) (fun h4 => ?_)
  · exact absurd h4 (by decide)
  · refine fs_iload_n (pc2 := 8) rfl rfl rfl rfl ?_
    refine fs_if_lt (pc2 := 11) rfl rfl rfl (fun h8 => ?_) (fun h8 => ?_)
    · exact absurd h8 (nI_pos (by omega))
    · refine fs_iload_n (pc2 := 12) rfl rfl rfl rfl ?_
      refine fs_ldc (pc2 := 14) rfl rfl rfl ?_
      refine fs_icmp_gt (pc2 := 17) rfl rfl rfl (fun h14 => ?_) (fun h14 => ?_)
      · exact absurd (nI_le (a := num) (b := 65535) hnum (by decide)) h14
      · refine fs_iload_n (pc2 := 18) rfl rfl rfl rfl ?_
        refine fs_if_lt (pc2 := 21) rfl rfl rfl (fun h18 => ?_) (fun h18 => ?_)
        · exact absurd h18 (nI_pos (by omega))
        · refine fs_iload_n (pc2 := 22) rfl rfl rfl rfl ?_
          refine fs_bipush (pc2 := 24) rfl rfl rfl ?_
          refine fs_icmp_le (pc2 := 27) rfl rfl rfl (fun h24 => ?_) (fun h24 => ?_)
          · refine fs_aload_n (pc2 := 36) rfl rfl rfl rfl ?_
            refine fs_getr (pc2 := 39) rfl rfl rfl (by assumption) rfl ?_
            refine fs_iload_n (pc2 := 40) rfl rfl rfl rfl ?_
            refine fs_aald (pc2 := 41) rfl rfl rfl (by assumption) hi1 hi2 ?_
            refine fs_getr (pc2 := 44) rfl rfl rfl (by assumption) rfl ?_
            refine fs_astore (pc2 := 46) rfl rfl rfl (Nat.le_of_ble_eq_true rfl) ?_
            refine fs_iconst (pc2 := 47) rfl rfl rfl ?_
            refine fs_aload_n (pc2 := 48) rfl rfl rfl rfl ?_
            refine fs_getr (pc2 := 51) rfl rfl rfl (by assumption) rfl ?_
            refine fs_geti (pc2 := 54) rfl rfl rfl (by assumption) rfl ?_
            refine fs_iadd (pc2 := 55) rfl rfl rfl ?_
            refine fs_bipush (pc2 := 57) rfl rfl rfl ?_
            refine fs_iadd (pc2 := 58) rfl rfl rfl ?_
            refine fs_iconst (pc2 := 59) rfl rfl rfl ?_
            refine fs_isub (pc2 := 60) rfl rfl rfl ?_
            refine fs_bipush (pc2 := 62) rfl rfl rfl ?_
            refine fs_idiv (pc2 := 63) rfl rfl rfl (by decide) ?_
            refine fs_istore (pc2 := 65) rfl rfl rfl (Nat.le_of_ble_eq_true rfl) ?_
            refine fs_aload (pc2 := 67) rfl rfl rfl rfl ?_
            refine fs_iload (pc2 := 69) rfl rfl rfl rfl ?_
            refine fs_callv (pc2 := 72) rfl rfl rfl rfl ⟨rfl, rfl⟩ (Nat.le_of_ble_eq_true rfl) (Nat.le_of_ble_eq_true rfl) (Nat.le_of_ble_eq_true rfl) (fs_rcv rfl (by assumption)) (by rw [ep]; exact e_Way_hasRoomFor (by omega) HW) (fun v9 sh9 V9 n9 hp9 => ?_)
            obtain ⟨ea9, eb9, ec9, hv9⟩ := hp9
            cases ea9
            obtain rfl := eb9.symm
            obtain rfl := ec9.symm
            cases hv9
            refine fs_if_ne (pc2 := 75) rfl rfl rfl (fun h72 => ?_) (fun h72 => ?_)
            · refine fs_aload_n (pc2 := 79) rfl rfl rfl rfl ?_
              refine fs_getr (pc2 := 82) rfl rfl rfl (by assumption) rfl ?_
              refine fs_callv (pc2 := 85) rfl rfl rfl rfl ⟨rfl, rfl⟩ (Nat.le_of_ble_eq_true rfl) (Nat.le_of_ble_eq_true rfl) (Nat.le_of_ble_eq_true rfl) (fs_rcv rfl (by assumption)) (e_Row_clear u6) (fun v9 sh9 V9 n9 hp9 => ?_)
              obtain ⟨ea9, eb9, ec9, hr1, hf1⟩ := hp9
              cases ea9
              obtain rfl := eb9.symm
              obtain rfl := ec9.symm
              have eS1 : V9 (c + 370) 1 + nI more = nI (S.length + more) := by rw [hf1 _ (by omega), eS, nI_add]
              refine fs_aload_n (pc2 := 86) rfl rfl rfl rfl ?_
              refine fs_getr (pc2 := 89) rfl rfl rfl (by assumption) rfl ?_
              refine fs_aload_n (pc2 := 90) rfl rfl rfl rfl ?_
              refine fs_getr (pc2 := 93) rfl rfl rfl (by assumption) rfl ?_
              refine fs_geti (pc2 := 96) rfl rfl rfl (by assumption) rfl ?_
              refine fs_iload_n (pc2 := 97) rfl rfl rfl rfl ?_
              refine fs_iadd (pc2 := 98) rfl rfl rfl ?_
              refine fs_callv (pc2 := 101) rfl rfl rfl rfl ⟨rfl, rfl⟩ (Nat.le_of_ble_eq_true rfl) (Nat.le_of_ble_eq_true rfl) (Nat.le_of_ble_eq_true rfl) (fs_rcv rfl (by assumption)) (by rw [eS1]; exact e_Row_addNumber (by omega) hr1 (by simp)) (fun v9 sh9 V9 n9 hp9 => ?_)
              obtain ⟨ea9, eb9, ec9, hr2, hf2⟩ := hp9
              cases ea9
              obtain rfl := eb9.symm
              obtain rfl := ec9.symm
              refine fs_aload_n (pc2 := 102) rfl rfl rfl rfl ?_
              refine fs_getr (pc2 := 105) rfl rfl rfl (by assumption) rfl ?_
              refine fs_iload_n (pc2 := 106) rfl rfl rfl rfl ?_
              refine fs_callv (pc2 := 109) rfl rfl rfl rfl ⟨rfl, rfl⟩ (Nat.le_of_ble_eq_true rfl) (Nat.le_of_ble_eq_true rfl) (Nat.le_of_ble_eq_true rfl) (fs_rcv rfl (by assumption)) (e_Row_addNumber (by omega) hr2 (by simp)) (fun v9 sh9 V9 n9 hp9 => ?_)
              obtain ⟨ea9, eb9, ec9, hr3, hf3⟩ := hp9
              cases ea9
              obtain rfl := eb9.symm
              obtain rfl := ec9.symm
              have u53 := u5.kept (V' := V9) (by rw [hf3 _ (by omega) (by omega), hf2 _ (by omega) (by omega), hf1 _ (by omega)]) (by rw [hf3 _ (by omega) (by omega), hf2 _ (by omega) (by omega), hf1 _ (by omega)])
              have eS3 : V9 (c + 370) 1 = nI S.length := u53.2.2.2.2.1
              refine fs_aload_n (pc2 := 110) rfl rfl rfl rfl ?_
              refine fs_getr (pc2 := 113) rfl rfl rfl (by assumption) rfl ?_
              refine fs_aload_n (pc2 := 114) rfl rfl rfl rfl ?_
              refine fs_getr (pc2 := 117) rfl rfl rfl (by assumption) rfl ?_
              refine fs_iconst (pc2 := 118) rfl rfl rfl ?_
              refine fs_aload_n (pc2 := 119) rfl rfl rfl rfl ?_
              refine fs_getr (pc2 := 122) rfl rfl rfl (by assumption) rfl ?_
              refine fs_geti (pc2 := 125) rfl rfl rfl (by assumption) rfl ?_
              refine fs_callv (pc2 := 128) rfl rfl rfl rfl ⟨rfl, rfl⟩ (Nat.le_of_ble_eq_true rfl) (Nat.le_of_ble_eq_true rfl) (Nat.le_of_ble_eq_true rfl) (fs_rcv rfl (by assumption)) (by rw [eS3]; exact e_Row_addPart (s := 0) (by decide) (by omega) hr3 u53 (by omega) (by omega) (by omega) (by simp; omega)) (fun v9 sh9 V9 n9 hp9 => ?_)
              obtain ⟨ea9, eb9, ec9, hr4, hf4⟩ := hp9
              cases ea9
              obtain rfl := eb9.symm
              obtain rfl := ec9.symm
              rw [List.drop_zero, List.take_of_length_le (Nat.le_refl _)] at hr4
              obtain ⟨L1, F1⟩ := hL.putI hr4 (fun a a1 a2 => by rw [hf4 a a1 a2, hf3 a a1 a2, hf2 a a1 a2, hf1 a a1])
              refine fs_iconst (pc2 := 129) rfl rfl rfl ?_
              refine fs_istore (pc2 := 131) rfl rfl rfl (Nat.le_of_ble_eq_true rfl) ?_
              rw [ep]
              rw [hhb]
              rw [← hp] at hP
              have r0 : va_up HH i (hoW (HH i) ((HH i).2.2.2.1 ++ (List.range 0).map (injPk (injUnit S num more)))) = HH := by
                funext z
                unfold va_up
                split
                · next hz => subst hz; simp
                · rfl
              refine e_inject_loop (d := d) hi lp hfit (fun V' h1 h2 => hP _ _ _ _ ⟨rfl, ⟨E, R, h1⟩, FC.same h2⟩) p 0 (by omega) _ (by rw [r0]; exact L1) hr4 (fun a ha => by rw [hf4 a (by omega) (by omega), hf3 a (by omega) (by omega), hf2 a (by omega) (by omega), hf1 a (by omega)])
            · rw [decide_eq_true (by omega)] at h72
              exact absurd h72 (by decide)
          · exact absurd (nI_le (a := more) (b := 100) hmore (by decide)) h24
end FEED
