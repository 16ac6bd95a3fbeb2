section AL2
variable {cy : Nat → ClassId} {z0 zF ax mi a0 : Nat} {d : Nat} {sh : fl_S} {V : fl_V} {n : Nat}
set_option maxRecDepth 100000 in
set_option maxHeartbeats 4000000 in
theorem a_add3 {w e l k r : Nat} {g : Nat → Option Nat} {slots : List (Option (Option Nat))} (hw : sh w = some (.inr (0, [none, some (some e), none]))) (hs : sh e = some (.inl (8, l, some (.inl g)))) (hwn : w < n) (he : e < n) (hr : sh r = some (.inr (4, slots))) (hrn : r < n) (hkl : k < l) (hl : l ≤ 600) : fn_M cy z0 zF ax mi (d + 2) m_Jx4a65c_add_72be8 [.ref (z0 + w), .ref (z0 + r), .ref (z0 + e), .int (nI k)] sh V n (fun v sh' V' n' => v = none ∧ sh' = va_up sh e (some (.inl (8, l, some (.inl (va_up g k (some r)))))) ∧ V' = up2 V w 2 (nI (k + 1)) ∧ n' = n) := by
  have hwe : w ≠ e := fun z => by rw [z, hs] at hw; cases hw
  have hi : vp_in (nI k) l := vp_in_nI hkl (by omega)
  have ck : (nI k).toNatClampNeg = k := nI_clamp (by omega)
  have w1 : va_up sh e (some (.inl (8, l, some (.inl (va_up g (nI k).toNatClampNeg (some r)))))) w = some (.inr (0, [none, some (some e), none])) := by rw [va_up_ne _ _ hwe]; exact hw
  refine fn_body rfl rfl (fun Ret hP => ?_)
  refine fs_iload_n (pc2 := 1) rfl rfl rfl rfl ?_
  refine fs_aload_n (pc2 := 2) rfl rfl rfl rfl ?_
  refine fs_alen (pc2 := 3) rfl rfl rfl (by assumption) ?_
  refine fs_icmp_ne (pc2 := 6) rfl rfl rfl (fun h3 => ?_) (fun h3 => ?_)
  · refine fs_aload_n (pc2 := 12) rfl rfl rfl rfl ?_
    refine fs_iload_n (pc2 := 13) rfl rfl rfl rfl ?_
    refine fs_aload_n (pc2 := 14) rfl rfl rfl rfl ?_
    refine fs_aast (ci := 0) (pc2 := 15) rfl rfl rfl (by assumption) (by assumption) hi ?_
    refine fs_aload_n (pc2 := 16) rfl rfl rfl rfl ?_
    refine fs_iload_n (pc2 := 17) rfl rfl rfl rfl ?_
    refine fs_iconst (pc2 := 18) rfl rfl rfl ?_
    refine fs_iadd (pc2 := 19) rfl rfl rfl ?_
    refine fs_puti (pc2 := 22) rfl rfl rfl (by assumption) rfl True.intro ?_
    refine fs_ret rfl rfl ?_
    rw [ck, nI_1]
    exact hP _ _ _ _ ⟨rfl, rfl, rfl, rfl⟩
  · exact absurd (by first | exact h3 | (rw [show (Int32.ofNat l) = nI l from rfl] at h3; exact h3)) (fun z => by have := c_eq z rfl rfl; omega)
set_option maxRecDepth 100000 in
set_option maxHeartbeats 4000000 in
theorem a_add3_0 {w e r : Nat} {slots : List (Option (Option Nat))} (hw : sh w = some (.inr (0, [none, some (some e), none]))) (hs : sh e = some (.inl (8, 0, some (.inl fun _ => none)))) (hwn : w < n) (hax : ax = z0 + e) (hv : V w 2 = nI 0) (hr : sh r = some (.inr (4, slots))) (hrn : r < n) : fn_M cy z0 zF ax mi (d + 4) m_Jx4a65c_add_72be8 [.ref (z0 + w), .ref (z0 + r), .ref (z0 + e), .int (nI 0)] sh V n (fun v sh' V' n' => v = none ∧ (sh' w = some (.inr (0, [none, some (some n), none]))) ∧ sh' n = some (.inl (8, 10, some (.inl (va_up (fun _ => none) 0 (some r))))) ∧ (∀ a, a ≠ w → a ≠ n → sh' a = sh a) ∧ V' w 2 = nI (0 + 1) ∧ (∀ a, a ≠ w → a ≠ n → V' a = V a) ∧ n' = n + 1) := by
  have hi : vp_in (nI 0) 10 := vp_in_nI (by omega) (by omega)
  have ck : (nI 0).toNatClampNeg = 0 := nI_clamp (by omega)
  have hwn2 : w ≠ n := by omega
  refine fn_body rfl rfl (fun Ret hP => ?_)
  refine fs_iload_n (pc2 := 1) rfl rfl rfl rfl ?_
  refine fs_aload_n (pc2 := 2) rfl rfl rfl rfl ?_
  refine fs_alen (pc2 := 3) rfl rfl rfl (by assumption) ?_
  refine fs_icmp_ne (pc2 := 6) rfl rfl rfl (fun h3 => ?_) (fun h3 => ?_)
  · exact absurd rfl h3
  · refine fs_aload_n (pc2 := 7) rfl rfl rfl rfl ?_
    refine fc_callv (pc2 := 10) rfl rfl rfl rfl ⟨rfl, rfl⟩ (Nat.le_of_ble_eq_true rfl) (Nat.le_of_ble_eq_true rfl) (Nat.le_of_ble_eq_true rfl) (fs_rcv rfl (by assumption)) (a_grow1_0 hw hs hwn hax hv) (fun v9 sh9 V9 n9 hp9 => ?_)
    obtain ⟨ea9, eb9, ec9, ed9⟩ := hp9
    subst ea9
    have t1 : sh9 w = some (.inr (0, [none, some (some n), none])) := by rw [ec9, va_up_self]
    have t2 : sh9 n = some (.inl (8, 10, some (.inl (fun _ => none)))) := by rw [ec9, va_up_ne _ _ (by omega), va_up_self]
    have t3 : ∀ a, a ≠ w → a ≠ n → sh9 a = sh a := fun a q1 q2 => by rw [ec9, va_up_ne _ _ q1, va_up_ne _ _ q2]
    have t4 : ∀ a, a ≠ n → V9 a = V a := fun a q => by rw [ed9, va_up_ne _ _ q]
    clear ec9 ed9
    subst eb9
    have t5 : sh9 r = some (.inr (4, slots)) := by rw [t3 r (fun z => by rw [z, hw] at hr; cases hr) (by omega)]; exact hr
    have t6 : va_up sh9 n (some (.inl (8, 10, some (.inl (va_up (fun _ => none) (nI 0).toNatClampNeg (some r)))))) w = some (.inr (0, [none, some (some n), none])) := by rw [va_up_ne _ _ hwn2]; exact t1
    refine fs_astore_n (pc2 := 11) rfl rfl rfl (Nat.le_of_ble_eq_true rfl) ?_
    refine fs_aload_n (pc2 := 12) rfl rfl rfl rfl ?_
    refine fs_iload_n (pc2 := 13) rfl rfl rfl rfl ?_
    refine fs_aload_n (pc2 := 14) rfl rfl rfl rfl ?_
    refine fs_aast (ci := 0) (pc2 := 15) rfl rfl rfl (by assumption) (by assumption) hi ?_
    refine fs_aload_n (pc2 := 16) rfl rfl rfl rfl ?_
    refine fs_iload_n (pc2 := 17) rfl rfl rfl rfl ?_
    refine fs_iconst (pc2 := 18) rfl rfl rfl ?_
    refine fs_iadd (pc2 := 19) rfl rfl rfl ?_
    refine fs_puti (pc2 := 22) rfl rfl rfl (by assumption) rfl True.intro ?_
    refine fs_ret rfl rfl ?_
    rw [ck, nI_1]
    refine hP _ _ _ _ ⟨rfl, ?_, ?_, fun a q1 q2 => ?_, up2_s, fun a q1 q2 => ?_, rfl⟩
    · rw [va_up_ne _ _ hwn2]; exact t1
    · exact va_up_self _ _ _
    · rw [va_up_ne _ _ q2]; exact t3 a q1 q2
    · rw [up2_o q1]; exact t4 a q2
set_option maxRecDepth 100000 in
set_option maxHeartbeats 4000000 in
theorem a_add3_L {w e l r : Nat} {g : Nat → Option Nat} {slots : List (Option (Option Nat))} (hw : sh w = some (.inr (0, [none, some (some e), none]))) (hs : sh e = some (.inl (8, l, some (.inl g)))) (hwn : w < n) (he : e < n) (hr : sh r = some (.inr (4, slots))) (hrn : r < n) (hl0 : 0 < l) (hl : l ≤ 366) (hg : ∀ i, i < l → ∀ y, g i = some y → y < n ∧ ∃ slots, sh y = some (.inr (4, slots))) (hv : V w 2 = nI l) : fn_M cy z0 zF ax mi (d + 6) m_Jx4a65c_add_72be8 [.ref (z0 + w), .ref (z0 + r), .ref (z0 + e), .int (nI l)] sh V n (fun v sh' V' n' => v = none ∧ (sh' w = some (.inr (0, [none, some (some n), none]))) ∧ sh' n = some (.inl (8, (l + max 1 (l / 2)), some (.inl (va_up (va_cpy g (fun _ => none) 0 0 l) l (some r))))) ∧ (∀ a, a ≠ w → a ≠ n → sh' a = sh a) ∧ V' w 2 = nI (l + 1) ∧ (∀ a, a ≠ w → a ≠ n → V' a = V a) ∧ n' = n + 1) := by
  have hi : vp_in (nI l) (l + max 1 (l / 2)) := vp_in_nI (by omega) (by omega)
  have ck : (nI l).toNatClampNeg = l := nI_clamp (by omega)
  have hwn2 : w ≠ n := by omega
  refine fn_body rfl rfl (fun Ret hP => ?_)
  refine fs_iload_n (pc2 := 1) rfl rfl rfl rfl ?_
  refine fs_aload_n (pc2 := 2) rfl rfl rfl rfl ?_
  refine fs_alen (pc2 := 3) rfl rfl rfl (by assumption) ?_
  refine fs_icmp_ne (pc2 := 6) rfl rfl rfl (fun h3 => ?_) (fun h3 => ?_)
  · exact absurd rfl h3
  · refine fs_aload_n (pc2 := 7) rfl rfl rfl rfl ?_
    refine fc_callv (pc2 := 10) rfl rfl rfl rfl ⟨rfl, rfl⟩ (Nat.le_of_ble_eq_true rfl) (Nat.le_of_ble_eq_true rfl) (Nat.le_of_ble_eq_true rfl) (fs_rcv rfl (by assumption)) (a_grow1_L (k := 0) hw hs hwn he (fun z => by rw [z, hs] at hw; cases hw) hl0 hl hg hv) (fun v9 sh9 V9 n9 hp9 => ?_)
    obtain ⟨ea9, eb9, ec9, ed9⟩ := hp9
    subst ea9
    have t1 : sh9 w = some (.inr (0, [none, some (some n), none])) := by rw [ec9, va_up_self]
    have t2 : sh9 n = some (.inl (8, (l + max 1 (l / 2)), some (.inl (va_cpy g (fun _ => none) 0 0 l)))) := by rw [ec9, va_up_ne _ _ (by omega), va_up_self]
    have t3 : ∀ a, a ≠ w → a ≠ n → sh9 a = sh a := fun a q1 q2 => by rw [ec9, va_up_ne _ _ q1, va_up_ne _ _ q2]
    have t4 : ∀ a, a ≠ n → V9 a = V a := fun a q => by rw [ed9, va_up_ne _ _ q]
    clear ec9 ed9
    subst eb9
    have t5 : sh9 r = some (.inr (4, slots)) := by rw [t3 r (fun z => by rw [z, hw] at hr; cases hr) (by omega)]; exact hr
    have t6 : va_up sh9 n (some (.inl (8, (l + max 1 (l / 2)), some (.inl (va_up (va_cpy g (fun _ => none) 0 0 l) (nI l).toNatClampNeg (some r)))))) w = some (.inr (0, [none, some (some n), none])) := by rw [va_up_ne _ _ hwn2]; exact t1
    refine fs_astore_n (pc2 := 11) rfl rfl rfl (Nat.le_of_ble_eq_true rfl) ?_
    refine fs_aload_n (pc2 := 12) rfl rfl rfl rfl ?_
    refine fs_iload_n (pc2 := 13) rfl rfl rfl rfl ?_
    refine fs_aload_n (pc2 := 14) rfl rfl rfl rfl ?_
    refine fs_aast (ci := 0) (pc2 := 15) rfl rfl rfl (by assumption) (by assumption) hi ?_
    refine fs_aload_n (pc2 := 16) rfl rfl rfl rfl ?_
    refine fs_iload_n (pc2 := 17) rfl rfl rfl rfl ?_
    refine fs_iconst (pc2 := 18) rfl rfl rfl ?_
    refine fs_iadd (pc2 := 19) rfl rfl rfl ?_
    refine fs_puti (pc2 := 22) rfl rfl rfl (by assumption) rfl True.intro ?_
    refine fs_ret rfl rfl ?_
    rw [ck, nI_1]
    refine hP _ _ _ _ ⟨rfl, ?_, ?_, fun a q1 q2 => ?_, up2_s, fun a q1 q2 => ?_, rfl⟩
    · rw [va_up_ne _ _ hwn2]; exact t1
    · exact va_up_self _ _ _
    · rw [va_up_ne _ _ q2]; exact t3 a q1 q2
    · rw [up2_o q1]; exact t4 a q2
set_option maxRecDepth 100000 in
set_option maxHeartbeats 4000000 in
theorem a_add {w e l k r : Nat} {g : Nat → Option Nat} {slots : List (Option (Option Nat))} (hw : sh w = some (.inr (0, [none, some (some e), none]))) (hs : sh e = some (.inl (8, l, some (.inl g)))) (hwn : w < n) (he : e < n) (hr : sh r = some (.inr (4, slots))) (hrn : r < n) (hv : V w 2 = nI k) (hkL : k ≤ l) (hc : l ∈ caps) (ha : e = a0 ∨ 0 < l) (h0 : eAr a0 0 (fun _ => none) sh) (hk : k < 512) (ha0 : a0 < n) (hax : ax = z0 + a0) (hel : ∀ i, i < k → ∃ q slots, g i = some q ∧ q < n ∧ sh q = some (.inr (4, slots))) : fn_M cy z0 zF ax mi (d + 7) m_Jx4a65c_add_9ea2d [.ref (z0 + w), .ref (z0 + r)] sh V n (fun v sh' V' n' => v = some (.int 1) ∧ n ≤ n' ∧ ∃ e' L' g', eAl w e' sh' ∧ eAr e' L' g' sh' ∧ V' w 2 = nI (k + 1) ∧ k + 1 ≤ L' ∧ L' ∈ caps ∧ e' < n' ∧ e' ≠ a0 ∧ (e' = e ∨ n ≤ e') ∧ (∀ i, i < k → g' i = g i) ∧ g' k = some r ∧ (∀ a, a < n → a ≠ w → V' a = V a) ∧ (∀ a, a < n → a ≠ w → (a ≠ e ∨ a = a0) → sh' a = sh a)) := by
  have hwe : w ≠ e := fun z => by rw [z, hs] at hw; cases hw
  have l549 : l ≤ 549 := by
    have hcc : ∀ z ∈ caps, z ≤ 549 := by decide
    exact hcc l hc
  have v2 : ∀ x, up2 V w 0 x w 2 = nI k := fun x => by rw [up2_i (by decide)]; exact hv
  have vo : ∀ x a, a ≠ w → up2 V w 0 x a = V a := fun x a q => up2_o q
  have l10 : (10 : Nat) ∈ caps := by decide
  by_cases hkl : k < l
  · have hea : e ≠ a0 := fun z => by unfold eAr at h0; rw [← z, hs] at h0; simp at h0; omega
    refine fn_body rfl rfl (fun Ret hP => ?_)
    refine fs_aload_n (pc2 := 1) rfl rfl rfl rfl ?_
    first | refine fs_dup_r (pc2 := 2) rfl rfl rfl ?_ | refine fs_dup_i (pc2 := 2) rfl rfl rfl ?_
    refine fs_geti (pc2 := 5) rfl rfl rfl (by assumption) rfl ?_
    refine fs_iconst (pc2 := 6) rfl rfl rfl ?_
    refine fs_iadd (pc2 := 7) rfl rfl rfl ?_
    refine fs_puti (pc2 := 10) rfl rfl rfl (by assumption) rfl True.intro ?_
    refine fs_aload_n (pc2 := 11) rfl rfl rfl rfl ?_
    refine fs_aload_n (pc2 := 12) rfl rfl rfl rfl ?_
    refine fs_aload_n (pc2 := 13) rfl rfl rfl rfl ?_
    refine fs_getr (pc2 := 16) rfl rfl rfl (by assumption) rfl ?_
    refine fs_aload_n (pc2 := 17) rfl rfl rfl rfl ?_
    refine fs_geti (pc2 := 20) rfl rfl rfl (by assumption) rfl ?_
    rw [v2]
    refine fc_callv (pc2 := 23) rfl rfl rfl rfl ⟨rfl, rfl⟩ (Nat.le_of_ble_eq_true rfl) (Nat.le_of_ble_eq_true rfl) (Nat.le_of_ble_eq_true rfl) (fs_rcv rfl (by assumption)) (a_add3 hw hs hwn he hr hrn hkl (by omega)) (fun v9 sh9 V9 n9 hp9 => ?_)
    obtain ⟨ea9, eb9, ec9, ed9⟩ := hp9
    subst ea9; subst eb9; subst ec9; subst ed9
    refine fs_iconst (pc2 := 24) rfl rfl rfl ?_
    refine fs_iret rfl rfl (Or.inr rfl) ?_
    refine hP _ _ _ _ ⟨rfl, Nat.le_refl _, e, l, va_up g k (some r), ?_, va_up_self _ _ _, up2_s, by omega, hc, he, hea, Or.inl rfl, fun i hi => va_up_ne _ _ (by omega), va_up_self _ _ _, fun a q1 q2 => ?_, fun a q1 q2 q3 => va_up_ne _ _ (by omega)⟩
    · unfold eAl; rw [va_up_ne _ _ hwe]; exact hw
    · rw [up2_o q2]; exact vo _ a q2
  · have hkl2 : l = k := by omega
    subst hkl2
    by_cases hl0 : l = 0
    · subst hl0
      have hea : e = a0 := by omega
      subst hea
      have hg0 : sh e = some (.inl (8, 0, some (.inl fun _ => none))) := h0
      refine fn_body rfl rfl (fun Ret hP => ?_)
      refine fs_aload_n (pc2 := 1) rfl rfl rfl rfl ?_
      first | refine fs_dup_r (pc2 := 2) rfl rfl rfl ?_ | refine fs_dup_i (pc2 := 2) rfl rfl rfl ?_
      refine fs_geti (pc2 := 5) rfl rfl rfl (by assumption) rfl ?_
      refine fs_iconst (pc2 := 6) rfl rfl rfl ?_
      refine fs_iadd (pc2 := 7) rfl rfl rfl ?_
      refine fs_puti (pc2 := 10) rfl rfl rfl (by assumption) rfl True.intro ?_
      refine fs_aload_n (pc2 := 11) rfl rfl rfl rfl ?_
      refine fs_aload_n (pc2 := 12) rfl rfl rfl rfl ?_
      refine fs_aload_n (pc2 := 13) rfl rfl rfl rfl ?_
      refine fs_getr (pc2 := 16) rfl rfl rfl (by assumption) rfl ?_
      refine fs_aload_n (pc2 := 17) rfl rfl rfl rfl ?_
      refine fs_geti (pc2 := 20) rfl rfl rfl (by assumption) rfl ?_
      rw [v2]
      refine fc_callv (pc2 := 23) rfl rfl rfl rfl ⟨rfl, rfl⟩ (Nat.le_of_ble_eq_true rfl) (Nat.le_of_ble_eq_true rfl) (Nat.le_of_ble_eq_true rfl) (fs_rcv rfl (by assumption)) (a_add3_0 hw hg0 hwn hax (v2 _) hr hrn) (fun v9 sh9 V9 n9 hp9 => ?_)
      obtain ⟨ea9, u1, u2, u3, u4, u5, ed9⟩ := hp9
      subst ea9; subst ed9
      refine fs_iconst (pc2 := 24) rfl rfl rfl ?_
      refine fs_iret rfl rfl (Or.inr rfl) ?_
      refine hP _ _ _ _ ⟨rfl, by omega, n, 10, _, u1, u2, u4, by omega, l10, by omega, by omega, Or.inr (Nat.le_refl _), fun i hi => ?_, va_up_self _ _ _, fun a q1 q2 => ?_, fun a q1 q2 q3 => u3 a q2 (by omega)⟩
      · rw [va_up_ne _ _ (by omega)]; omega
      · rw [u5 a q2 (by omega)]; exact vo _ a q2
    · have hl0' : 0 < l := by omega
      have hg : ∀ i, i < l → ∀ y, g i = some y → y < n ∧ ∃ slots, sh y = some (.inr (4, slots)) := fun i hi y hy => by
        obtain ⟨q, sl, q1, q2, q3⟩ := hel i hi
        rw [q1] at hy
        cases hy
        exact ⟨q2, sl, q3⟩
      have l366 : l ≤ 366 ∧ (l + max 1 (l / 2)) ∈ caps := by
        simp [caps] at hc
        rcases hc with rfl | rfl | rfl | rfl | rfl | rfl | rfl | rfl | rfl | rfl | rfl | rfl <;> first | omega | exact ⟨by decide, by decide⟩
      have hea : e ≠ a0 := fun z => by unfold eAr at h0; rw [← z, hs] at h0; simp at h0; omega
      refine fn_body rfl rfl (fun Ret hP => ?_)
      refine fs_aload_n (pc2 := 1) rfl rfl rfl rfl ?_
      first | refine fs_dup_r (pc2 := 2) rfl rfl rfl ?_ | refine fs_dup_i (pc2 := 2) rfl rfl rfl ?_
      refine fs_geti (pc2 := 5) rfl rfl rfl (by assumption) rfl ?_
      refine fs_iconst (pc2 := 6) rfl rfl rfl ?_
      refine fs_iadd (pc2 := 7) rfl rfl rfl ?_
      refine fs_puti (pc2 := 10) rfl rfl rfl (by assumption) rfl True.intro ?_
      refine fs_aload_n (pc2 := 11) rfl rfl rfl rfl ?_
      refine fs_aload_n (pc2 := 12) rfl rfl rfl rfl ?_
      refine fs_aload_n (pc2 := 13) rfl rfl rfl rfl ?_
      refine fs_getr (pc2 := 16) rfl rfl rfl (by assumption) rfl ?_
      refine fs_aload_n (pc2 := 17) rfl rfl rfl rfl ?_
      refine fs_geti (pc2 := 20) rfl rfl rfl (by assumption) rfl ?_
      rw [v2]
      refine fc_callv (pc2 := 23) rfl rfl rfl rfl ⟨rfl, rfl⟩ (Nat.le_of_ble_eq_true rfl) (Nat.le_of_ble_eq_true rfl) (Nat.le_of_ble_eq_true rfl) (fs_rcv rfl (by assumption)) (a_add3_L hw hs hwn he hr hrn hl0' l366.1 hg (v2 _)) (fun v9 sh9 V9 n9 hp9 => ?_)
      obtain ⟨ea9, u1, u2, u3, u4, u5, ed9⟩ := hp9
      subst ea9; subst ed9
      refine fs_iconst (pc2 := 24) rfl rfl rfl ?_
      refine fs_iret rfl rfl (Or.inr rfl) ?_
      refine hP _ _ _ _ ⟨rfl, by omega, n, (l + max 1 (l / 2)), _, u1, u2, u4, by omega, l366.2, by omega, by omega, Or.inr (Nat.le_refl _), fun i hi => ?_, va_up_self _ _ _, fun a q1 q2 => ?_, fun a q1 q2 q3 => u3 a q2 (by omega)⟩
      · rw [va_up_ne _ _ (by omega)]; unfold va_cpy; rw [if_pos (by omega), Nat.zero_add, Nat.sub_zero]
      · rw [u5 a q2 (by omega)]; exact vo _ a q2
set_option maxRecDepth 100000 in
set_option maxHeartbeats 4000000 in
theorem a_fast {w e l k r : Nat} {g : Nat → Option Nat} (hw : sh w = some (.inr (0, [none, some (some e), none]))) (hs : sh e = some (.inl (8, l, some (.inl g)))) (hv : V w 2 = nI k) (h0 : 0 < k) (hkl : k ≤ l) (hl : l ≤ 600) (hel : ∀ i, i < k → ∃ q slots, g i = some q ∧ sh q = some (.inr (4, slots))) : fn_M cy z0 zF ax mi (d + 2) m_Jx4a65c_fastRemove_b59b0 [.ref (z0 + w), .ref (z0 + e), .int (nI 0)] sh V n (fun v sh' V' n' => v = none ∧ n' = n ∧ (∃ g', sh' w = some (.inr (0, [none, some (some e), none])) ∧ sh' e = some (.inl (8, l, some (.inl g'))) ∧ V' w 2 = nI (k - 1) ∧ (∀ i, i + 1 < k → g' i = g (i + 1)) ∧ (∀ a, a ≠ w → V' a = V a) ∧ (∀ a, a ≠ e → sh' a = sh a))) := by
  have hwe : w ≠ e := fun z => by rw [z, hs] at hw; cases hw
  have e1 : ∀ x, up2 V w 0 x w 2 - 1 = nI (k - 1) := fun x => by rw [up2_i (by decide), hv]; exact pk_sub (b := 1) (by omega)
  have e2 : nI (k - 1) - nI 0 = nI (k - 1) := by rw [pk_sub (by omega)]; rfl
  have ck : (nI (k - 1)).toNatClampNeg = k - 1 := nI_clamp (by omega)
  have hi : vp_in (nI (k - 1)) l := vp_in_nI (by omega) (by omega)
  refine fn_body rfl rfl (fun Ret hP => ?_)
  refine fs_aload_n (pc2 := 1) rfl rfl rfl rfl ?_
  first | refine fs_dup_r (pc2 := 2) rfl rfl rfl ?_ | refine fs_dup_i (pc2 := 2) rfl rfl rfl ?_
  refine fs_geti (pc2 := 5) rfl rfl rfl (by assumption) rfl ?_
  refine fs_iconst (pc2 := 6) rfl rfl rfl ?_
  refine fs_iadd (pc2 := 7) rfl rfl rfl ?_
  refine fs_puti (pc2 := 10) rfl rfl rfl (by assumption) rfl True.intro ?_
  refine fs_aload_n (pc2 := 11) rfl rfl rfl rfl ?_
  refine fs_geti (pc2 := 14) rfl rfl rfl (by assumption) rfl ?_
  refine fs_iconst (pc2 := 15) rfl rfl rfl ?_
  refine fs_isub (pc2 := 16) rfl rfl rfl ?_
  rw [e1]
  first | refine fs_dup_r (pc2 := 17) rfl rfl rfl ?_ | refine fs_dup_i (pc2 := 17) rfl rfl rfl ?_
  refine fs_istore_n (pc2 := 18) rfl rfl rfl (Nat.le_of_ble_eq_true rfl) ?_
  refine fs_iload_n (pc2 := 19) rfl rfl rfl rfl ?_
  refine fs_icmp_le (pc2 := 22) rfl rfl rfl (fun h19 => ?_) (fun h19 => ?_)
  · refine fs_aload_n (pc2 := 35) rfl rfl rfl rfl ?_
    refine fs_aload_n (pc2 := 36) rfl rfl rfl rfl ?_
    refine fs_iload_n (pc2 := 37) rfl rfl rfl rfl ?_
    refine fs_dupx1_ir (pc2 := 38) rfl rfl rfl ?_
    refine fs_puti (pc2 := 41) rfl rfl rfl (by assumption) rfl True.intro ?_
    refine fs_null (pc2 := 42) rfl rfl rfl ?_
    refine fs_aast0 (pc2 := 43) rfl rfl rfl (by assumption) hi ?_
    refine fs_ret rfl rfl ?_
    rw [ck]
    refine hP _ _ _ _ ⟨rfl, rfl, va_up g (k - 1) none, ?_, va_up_self _ _ _, up2_s, fun i hi2 => ?_, fun a q => ?_, fun a q => ?_⟩
    · rw [va_up_ne _ _ hwe]; exact hw
    · have := c_le (b := 0) h19 rfl rfl
      omega
    · rw [up2_o q, up2_o q]
    · rw [va_up_ne _ _ q]
  · refine fs_aload_n (pc2 := 23) rfl rfl rfl rfl ?_
    refine fs_iload_n (pc2 := 24) rfl rfl rfl rfl ?_
    refine fs_iconst (pc2 := 25) rfl rfl rfl ?_
    refine fs_iadd (pc2 := 26) rfl rfl rfl ?_
    refine fs_aload_n (pc2 := 27) rfl rfl rfl rfl ?_
    refine fs_iload_n (pc2 := 28) rfl rfl rfl rfl ?_
    refine fs_iload_n (pc2 := 29) rfl rfl rfl rfl ?_
    refine fs_iload_n (pc2 := 30) rfl rfl rfl rfl ?_
    refine fs_isub (pc2 := 31) rfl rfl rfl ?_
    rw [e2]
    refine fa_copy (pc2 := 34) (s1 := 1) (d1 := 0) (t1 := k - 1) rfl (Or.inr ⟨rfl, rfl⟩) rfl hs hs (by omega) rfl rfl rfl (by decide) (by decide) (by omega) (by omega) (by omega) (fun i hi y hy => ?_) (by decide) ?_
    · obtain ⟨q, sl, q1, q2⟩ := hel (1 + i) (by omega)
      rw [q1] at hy
      cases hy
      exact ⟨sl, q2⟩
    have s2 : va_up sh e (some (.inl (8, l, some (.inl (va_cpy g g 1 0 (k - 1)))))) e = some (.inl (8, l, some (.inl (va_cpy g g 1 0 (k - 1))))) := va_up_self _ _ _
    have w2 : va_up sh e (some (.inl (8, l, some (.inl (va_cpy g g 1 0 (k - 1)))))) w = some (.inr (0, [none, some (some e), none])) := by rw [va_up_ne _ _ hwe]; exact hw
    refine fs_aload_n (pc2 := 35) rfl rfl rfl rfl ?_
    refine fs_aload_n (pc2 := 36) rfl rfl rfl rfl ?_
    refine fs_iload_n (pc2 := 37) rfl rfl rfl rfl ?_
    refine fs_dupx1_ir (pc2 := 38) rfl rfl rfl ?_
    refine fs_puti (pc2 := 41) rfl rfl rfl (by assumption) rfl True.intro ?_
    refine fs_null (pc2 := 42) rfl rfl rfl ?_
    refine fs_aast0 (pc2 := 43) rfl rfl rfl (by assumption) hi ?_
    refine fs_ret rfl rfl ?_
    rw [ck]
    refine hP _ _ _ _ ⟨rfl, rfl, va_up (va_cpy g g 1 0 (k - 1)) (k - 1) none, ?_, va_up_self _ _ _, up2_s, fun i hi2 => ?_, fun a q => ?_, fun a q => ?_⟩
    · rw [va_up_ne _ _ hwe]; exact w2
    · rw [va_up_ne _ _ (by omega)]
      unfold va_cpy
      rw [if_pos (by omega)]
      congr 1
      omega
    · rw [up2_o q, up2_o q]
    · rw [va_up_ne _ _ q]; exact va_up_ne _ _ q
set_option maxRecDepth 100000 in
set_option maxHeartbeats 4000000 in
theorem a_remove {w e l k r : Nat} {g : Nat → Option Nat} (hw : sh w = some (.inr (0, [none, some (some e), none]))) (hs : sh e = some (.inl (8, l, some (.inl g)))) (hv : V w 2 = nI k) (h0 : 0 < k) (hkl : k ≤ l) (hl : l ≤ 600) (hel : ∀ i, i < k → ∃ q slots, g i = some q ∧ sh q = some (.inr (4, slots))) (hg0 : g 0 = some r) : fn_M cy z0 zF ax mi (d + 4) m_Jx4a65c_remove_915e3 [.ref (z0 + w), .int 0] sh V n (fun v sh' V' n' => v = some (.ref (z0 + r)) ∧ n' = n ∧ (∃ g', sh' w = some (.inr (0, [none, some (some e), none])) ∧ sh' e = some (.inl (8, l, some (.inl g'))) ∧ V' w 2 = nI (k - 1) ∧ (∀ i, i + 1 < k → g' i = g (i + 1)) ∧ (∀ a, a ≠ w → V' a = V a) ∧ (∀ a, a ≠ e → sh' a = sh a))) := by
  have i0 : vp_in (0 : Int32) l := vp_in_nI (n := 0) (by omega) (by omega)
  have hlt : (0 : Int32) < V w 2 := by rw [hv]; exact nI_lt (a := 0) h0 (by omega)
  refine fn_body rfl rfl (fun Ret hP => ?_)
  refine fs_iload_n (pc2 := 1) rfl rfl rfl rfl ?_
  refine fs_aload_n (pc2 := 2) rfl rfl rfl rfl ?_
  refine fs_geti (pc2 := 5) rfl rfl rfl (by assumption) rfl ?_
  refine fc_calls (pc2 := 8) rfl rfl rfl rfl rfl rfl ⟨rfl, rfl⟩ (Nat.le_of_ble_eq_true rfl) (Nat.le_of_ble_eq_true rfl) (Nat.le_of_ble_eq_true rfl) (a_ci2 (by decide) hlt) (fun v9 sh9 V9 n9 hp9 => ?_)
  obtain ⟨ea9, eb9, ec9, hv9⟩ := hp9
  cases ea9
  obtain rfl := eb9.symm
  obtain rfl := ec9.symm
  cases hv9
  first | refine fs_pop_i (pc2 := 9) rfl rfl rfl ?_ | refine fs_pop_r (pc2 := 9) rfl rfl rfl ?_
  refine fs_aload_n (pc2 := 10) rfl rfl rfl rfl ?_
  refine fs_getr (pc2 := 13) rfl rfl rfl (by assumption) rfl ?_
  refine fs_astore_n (pc2 := 14) rfl rfl rfl (Nat.le_of_ble_eq_true rfl) ?_
  refine fs_aload_n (pc2 := 15) rfl rfl rfl rfl ?_
  refine fs_iload_n (pc2 := 16) rfl rfl rfl rfl ?_
  refine fs_aald (pc2 := 17) rfl rfl rfl (by assumption) i0 hg0 ?_
  refine fs_astore_n (pc2 := 18) rfl rfl rfl (Nat.le_of_ble_eq_true rfl) ?_
  refine fs_aload_n (pc2 := 19) rfl rfl rfl rfl ?_
  refine fs_aload_n (pc2 := 20) rfl rfl rfl rfl ?_
  refine fs_iload_n (pc2 := 21) rfl rfl rfl rfl ?_
  refine fc_callv (pc2 := 24) rfl rfl rfl rfl ⟨rfl, rfl⟩ (Nat.le_of_ble_eq_true rfl) (Nat.le_of_ble_eq_true rfl) (Nat.le_of_ble_eq_true rfl) (fs_rcv rfl (by assumption)) (a_fast (r := 0) hw hs hv h0 hkl hl hel) (fun v9 sh9 V9 n9 hp9 => ?_)
  obtain ⟨ea9, eb9, g1, m1, m2, m3, m4, m5, m6⟩ := hp9
  subst ea9; subst eb9
  refine fs_aload_n (pc2 := 25) rfl rfl rfl rfl ?_
  refine fs_aret (q := some r) rfl rfl True.intro ?_
  exact hP _ _ _ _ ⟨rfl, rfl, g1, m1, m2, m3, m4, m5, m6⟩
set_option maxRecDepth 100000 in
set_option maxHeartbeats 4000000 in
theorem a_init0 {w : Nat} : fn_M cy z0 zF ax mi (d + 2) m_Jxa1e45_init_da8c8 [.ref (z0 + w)] sh V n (fun v sh' V' n' => v = none ∧ sh' = sh ∧ n' = n ∧ V' = V) := by
  refine fn_body rfl rfl (fun Ret hP => ?_)
  refine fs_aload_n (pc2 := 1) rfl rfl rfl rfl ?_
  refine fs_objinit (pc2 := 4) rfl rfl rfl rfl (Nat.le_of_ble_eq_true rfl) ?_
  refine fs_ret rfl rfl ?_
  exact hP _ _ _ _ ⟨rfl, rfl, rfl, rfl⟩
set_option maxRecDepth 100000 in
set_option maxHeartbeats 4000000 in
theorem a_init1 {w : Nat} {sl : List (Option (Option Nat))} (hw : sh w = some (.inr (0, none :: sl))) : fn_M cy z0 zF ax mi (d + 3) m_Jxc12de_init_da8c8 [.ref (z0 + w)] sh V n (fun v sh' V' n' => v = none ∧ sh' = sh ∧ n' = n ∧ V' = up2 V w 0 0) := by
  refine fn_body rfl rfl (fun Ret hP => ?_)
  refine fs_aload_n (pc2 := 1) rfl rfl rfl rfl ?_
  refine fc_callc (pc2 := 4) rfl rfl rfl rfl rfl ⟨rfl, rfl⟩ (Nat.le_of_ble_eq_true rfl) (Nat.le_of_ble_eq_true rfl) (Nat.le_of_ble_eq_true rfl) trivial (a_init0) (fun v9 sh9 V9 n9 hp9 => ?_)
  obtain ⟨ea9, eb9, ec9, hv9⟩ := hp9
  cases ea9
  obtain rfl := eb9.symm
  obtain rfl := ec9.symm
  cases hv9
  refine fs_aload_n (pc2 := 5) rfl rfl rfl rfl ?_
  refine fs_iconst (pc2 := 6) rfl rfl rfl ?_
  refine fs_puti (pc2 := 9) rfl rfl rfl (by assumption) rfl True.intro ?_
  refine fs_ret rfl rfl ?_
  exact hP _ _ _ _ ⟨rfl, rfl, rfl, rfl⟩
set_option maxRecDepth 100000 in
set_option maxHeartbeats 4000000 in
theorem a_init {w : Nat} (hw : sh w = some (.inr (0, [none, some none, none]))) (hax : ax = z0 + a0) : fn_M cy z0 zF ax mi (d + 4) m_Jx4a65c_init_da8c8 [.ref (z0 + w)] sh V n (fun v sh' V' n' => v = none ∧ sh' = va_up sh w (some (.inr (0, [none, some (some a0), none]))) ∧ n' = n ∧ V' = up2 V w 0 0) := by
  refine fn_body rfl rfl (fun Ret hP => ?_)
  refine fs_aload_n (pc2 := 1) rfl rfl rfl rfl ?_
  refine fc_callc (pc2 := 4) rfl rfl rfl rfl rfl ⟨rfl, rfl⟩ (Nat.le_of_ble_eq_true rfl) (Nat.le_of_ble_eq_true rfl) (Nat.le_of_ble_eq_true rfl) trivial (a_init1 hw) (fun v9 sh9 V9 n9 hp9 => ?_)
  obtain ⟨ea9, eb9, ec9, hv9⟩ := hp9
  cases ea9
  obtain rfl := eb9.symm
  obtain rfl := ec9.symm
  cases hv9
  refine fs_aload_n (pc2 := 5) rfl rfl rfl rfl ?_
  refine fa_gets (pc2 := 8) rfl rfl rfl ?_
  rw [hax]
  refine fs_putr (pc2 := 11) rfl rfl rfl (by assumption) (Nat.le_of_ble_eq_true rfl) True.intro ?_
  refine fs_ret rfl rfl ?_
  exact hP _ _ _ _ ⟨rfl, rfl, rfl, rfl⟩
theorem fn_ext {m : Nat} {as : List Value} {P : Option Value → fl_S → fl_V → Nat → Prop} (h : fn_M cy z0 zF ax mi (d + 1) m as sh V n P) : fl_M cy z0 (ev_X cy zF ax mi) (d + 1) m as sh V n P := fun Post hP => Or.inl (h Post hP)
theorem al_ok (hax : ax = z0 + a0) : AlOK cy z0 a0 (ev_X cy zF ax mi) := by
  refine ⟨?_, ?_⟩
  · intro d sh V n w e g L k r slots h1 h2 h3 h4 h5 h6 h7 h8 h9 h10 h11 h12 h13 h14
    exact fn_ext (a_add h1 h2 h10 h11 h9 h13 h3 h4 h5 h6 h7 h8 h12 hax h14)
  · intro d sh V n w e g L k r h1 h2 h3 h4 h5 h6 h7 h8
    have hcc : ∀ z ∈ caps, z ≤ 549 := by decide
    exact fn_ext (a_remove (d := d + 4) h1 h2 h3 h4 h5 (Nat.le_trans (hcc L h6) (by decide)) h7 h8)
theorem al_init (hax : ax = z0 + a0) : AlInit cy z0 a0 (ev_X cy zF ax mi) := by
  intro d sh V n w h1 h2 h3
  refine fn_ext ?_
  have := a_init (cy := cy) (z0 := z0) (zF := zF) (ax := ax) (mi := mi) (a0 := a0) (d := d + 5) (V := V) (n := n) h1 hax
  intro Post hP
  refine this Post (fun v sh' V' n' hq => hP v sh' V' n' ?_)
  obtain ⟨q1, q2, q3, q4⟩ := hq
  subst q2; subst q4
  exact ⟨q1, q3, va_up_self _ _ _, up2_i (by decide), fun a ha => va_up_ne _ _ ha, fun a ha => up2_o ha⟩
end AL2
