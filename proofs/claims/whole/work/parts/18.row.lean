/-! CreditLink$Row: a list of bytes -/
def isRow (sh : fl_S) (r room : Nat) : Prop := sh r = some (.inr (4, [some (some (r + 1)), none])) ∧ sh (r + 1) = some (.inl (0, room, none))
/-- the row at r, with room for 'room' bytes, holds xs -/
def Row (sh : fl_S) (V : fl_V) (r room : Nat) (xs : List Nat) : Prop := isRow sh r room ∧ room ≤ 128 ∧ xs.length ≤ room ∧ (∀ b ∈ xs, b < 256) ∧ V r 1 = nI xs.length ∧ ∀ i b, xs[i]? = some b → V (r + 1) i = sb b
theorem Row.lt {sh : fl_S} {V : fl_V} {r room : Nat} {xs : List Nat} (h : Row sh V r room xs) : xs.length < 2 ^ 31 := by
  obtain ⟨-, h1, h2, -⟩ := h
  omega
/-- cells apart from the row's keep it -/
theorem Row.kept {sh : fl_S} {V V' : fl_V} {r room : Nat} {xs : List Nat} (h : Row sh V r room xs) (h0 : V' r = V r) (h1 : V' (r + 1) = V (r + 1)) : Row sh V' r room xs := by
  obtain ⟨g1, g2, g3, g4, g5, g6⟩ := h
  exact ⟨g1, g2, g3, g4, by rw [h0]; exact g5, fun i b hb => by rw [h1]; exact g6 i b hb⟩
theorem Row.shape {sh sh' : fl_S} {V : fl_V} {r room : Nat} {xs : List Nat} (h : Row sh V r room xs) (h0 : sh' r = sh r) (h1 : sh' (r + 1) = sh (r + 1)) : Row sh' V r room xs := by
  obtain ⟨⟨g0, g1⟩, g2⟩ := h
  exact ⟨⟨by rw [h0]; exact g0, by rw [h1]; exact g1⟩, g2⟩
theorem Row.empty {sh : fl_S} {V : fl_V} {r room : Nat} {xs : List Nat} (h : Row sh V r room xs) : Row sh (up2 V r 1 0) r room [] := by
  obtain ⟨g1, g2, g3, g4, g5, g6⟩ := h
  exact ⟨g1, g2, Nat.zero_le _, (fun b hb => absurd hb List.not_mem_nil), by simp [up2, nI_0], (fun i b hb => by simp at hb)⟩
theorem Row.push {sh : fl_S} {V : fl_V} {r room : Nat} {xs : List Nat} (h : Row sh V r room xs) {b : Nat} (hb : b < 256) (hl : xs.length < room) : Row sh (up2 (up2 V (r + 1) xs.length (sb b)) r 1 (nI (xs.length + 1))) r room (xs ++ [b]) := by
  obtain ⟨g1, g2, g3, g4, g5, g6⟩ := h
  refine ⟨g1, g2, by simp; omega, fun y hy => ?_, by simp [up2], fun i y hy => ?_⟩
  · rcases List.mem_append.mp hy with hy | hy
    · exact g4 y hy
    · rw [List.mem_singleton.mp hy]; exact hb
  · have hne : r + 1 ≠ r := by omega
    simp only [up2, hne, if_false, if_true]
    by_cases hi : i = xs.length
    · subst hi
      rw [List.getElem?_append_right (Nat.le_refl _)] at hy
      simp at hy
      simp [hy]
    · have hi2 : i < xs.length := by
        have := (List.getElem?_eq_some_iff.mp hy).1
        simp at this
        omega
      rw [List.getElem?_append_left hi2] at hy
      rw [if_neg hi]
      exact g6 i y hy
theorem up2_back {V : fl_V} {k j : Nat} {v w : Int32} : up2 (up2 V k j v) k j w = up2 V k j w := by
  funext a i
  simp only [up2]
  by_cases ha : a = k
  · by_cases hi : i = j
    · simp [ha, hi]
    · simp [ha, hi]
  · simp [ha]
theorem up2_swap {V : fl_V} {k j k2 j2 : Nat} {v w : Int32} (h : k ≠ k2) : up2 (up2 V k j v) k2 j2 w = up2 (up2 V k2 j2 w) k j v := by
  funext a i
  simp only [up2]
  by_cases ha : a = k
  · have : ¬ a = k2 := by omega
    subst ha
    simp [this, h]
  · by_cases hb : a = k2
    · subst hb
      simp [ha, Ne.symm h]
    · simp [ha, hb]
theorem up2_o {V : fl_V} {k j a : Nat} {v : Int32} (h : a ≠ k) : up2 V k j v a = V a := up2_ne V j v h
section ROW
variable {cy : Nat → ClassId} {z0 : Nat} {ext : Nat → Nat → List Value → ev_H → Nat → ev_P → Prop} {d : Nat} {sh : fl_S} {V : fl_V} {n r room : Nat} {xs : List Nat}
set_option maxRecDepth 100000 in
theorem e_Row_clear (hr : Row sh V r room xs) : fl_M cy z0 ext (d + 1) m_X3_clear [.ref (z0 + r)] sh V n (fun v sh' V' n' => v = none ∧ sh' = sh ∧ n' = n ∧ Row sh V' r room [] ∧ ∀ a, a ≠ r → V' a = V a) := by
  obtain ⟨hr0, hr1⟩ := id hr.1
  refine fs_body rfl rfl (fun Ret hP => ?_)
  refine fs_aload_n (pc2 := 1) rfl rfl rfl rfl ?_
  refine fs_iconst (pc2 := 2) rfl rfl rfl ?_
  refine fs_puti (pc2 := 5) rfl rfl rfl (by assumption) rfl True.intro ?_
  refine fs_ret rfl rfl ?_
  exact hP _ _ _ _ ⟨rfl, rfl, rfl, hr.empty, fun a ha => up2_o ha⟩
set_option maxRecDepth 100000 in
theorem e_Row_add {v : Int32} (hr : Row sh V r room xs) (hl : xs.length < room) : fl_M cy z0 ext (d + 1) m_X3_add [.ref (z0 + r), .int v] sh V n (fun v' sh' V' n' => v' = none ∧ sh' = sh ∧ n' = n ∧ Row sh V' r room (xs ++ [bt8 v]) ∧ ∀ a, a ≠ r → a ≠ r + 1 → V' a = V a) := by
  obtain ⟨⟨hr0, hr1⟩, hr2, hr3, hr4, hr5, hr6⟩ := id hr
  have hne : r ≠ r + 1 := by omega
  have hlt : V r 1 < Int32.ofNat room := by rw [hr5]; exact nI_lt hl (by omega)
  have hin : vp_in (V r 1) room := by rw [hr5]; exact vp_in_nI hl (by omega)
  refine fs_body rfl rfl (fun Ret hP => ?_)
  refine fs_aload_n (pc2 := 1) rfl rfl rfl rfl ?_
  refine fs_geti (pc2 := 4) rfl rfl rfl (by assumption) rfl ?_
  refine fs_aload_n (pc2 := 5) rfl rfl rfl rfl ?_
  refine fs_getr (pc2 := 8) rfl rfl rfl (by assumption) rfl ?_
  refine fs_alen (pc2 := 9) rfl rfl rfl (by assumption) ?_
  refine fs_icmp_ge (pc2 := 12) rfl rfl rfl (fun h9 => ?_) (fun h9 => ?_)
  · exact absurd hlt h9
  · refine fs_aload_n (pc2 := 13) rfl rfl rfl rfl ?_
    refine fs_getr (pc2 := 16) rfl rfl rfl (by assumption) rfl ?_
    refine fs_aload_n (pc2 := 17) rfl rfl rfl rfl ?_
    refine fs_geti (pc2 := 20) rfl rfl rfl (by assumption) rfl ?_
    refine fs_iload_n (pc2 := 21) rfl rfl rfl rfl ?_
    refine fs_i2b (pc2 := 22) rfl rfl rfl ?_
    refine fs_bast (pc2 := 23) rfl rfl rfl rfl (by assumption) (by assumption) ?_
    refine fs_aload_n (pc2 := 24) rfl rfl rfl rfl ?_
    first | refine fs_dup_r (pc2 := 25) rfl rfl rfl ?_ | refine fs_dup_i (pc2 := 25) rfl rfl rfl ?_
    refine fs_geti (pc2 := 28) rfl rfl rfl (by assumption) rfl ?_
    refine fs_iconst (pc2 := 29) rfl rfl rfl ?_
    refine fs_iadd (pc2 := 30) rfl rfl rfl ?_
    refine fs_puti (pc2 := 33) rfl rfl rfl (by assumption) rfl True.intro ?_
    refine fs_ret rfl rfl ?_
    refine hP _ _ _ _ ⟨rfl, rfl, rfl, ?_, fun a h1 h2 => by rw [up2_o h1, up2_o h2]⟩
    rw [up2_o hne, hr5, nI_clamp hr.lt, nI_1, show ev_bn 3 v.toInt8.toInt32 = sb (bt8 v) from sb_nar v]
    exact hr.push (bt8_lt v) hl
set_option maxRecDepth 100000 in
theorem e_Row_addNumber {k : Nat} (hk : k < 65536) (hr : Row sh V r room xs) (hl : xs.length + 1 < room) : fl_M cy z0 ext (d + 1) m_X3_addNumber [.ref (z0 + r), .int (nI k)] sh V n (fun v' sh' V' n' => v' = none ∧ sh' = sh ∧ n' = n ∧ Row sh V' r room (xs ++ [k % 256, k / 256]) ∧ ∀ a, a ≠ r → a ≠ r + 1 → V' a = V a) := by
  obtain ⟨⟨hr0, hr1⟩, hr2, hr3, hr4, hr5, hr6⟩ := id hr
  have hne : r ≠ r + 1 := by omega
  have e1 : Int32.ofNat room - 1 = nI (room - 1) := by
    have := pk_sub (a := room) (b := 1) (by omega)
    exact this
  have hlt : V r 1 < Int32.ofNat room - 1 := by rw [hr5, e1]; exact nI_lt (by omega) (by omega)
  have hin : vp_in (V r 1) room := by rw [hr5]; exact vp_in_nI (by omega) (by omega)
  have hin2 : ∀ v, vp_in (up2 V (r + 1) (V r 1).toNatClampNeg v r 1 + 1) room := by intro v; rw [up2_o hne, hr5, nI_1]; exact vp_in_nI (by omega) (by omega)
  refine fs_body rfl rfl (fun Ret hP => ?_)
  refine fs_aload_n (pc2 := 1) rfl rfl rfl rfl ?_
  refine fs_geti (pc2 := 4) rfl rfl rfl (by assumption) rfl ?_
  refine fs_aload_n (pc2 := 5) rfl rfl rfl rfl ?_
  refine fs_getr (pc2 := 8) rfl rfl rfl (by assumption) rfl ?_
  refine fs_alen (pc2 := 9) rfl rfl rfl (by assumption) ?_
  refine fs_iconst (pc2 := 10) rfl rfl rfl ?_
  refine fs_isub (pc2 := 11) rfl rfl rfl ?_
  refine fs_icmp_ge (pc2 := 14) rfl rfl rfl (fun h11 => ?_) (fun h11 => ?_)
  · exact absurd hlt h11
  · refine fs_aload_n (pc2 := 15) rfl rfl rfl rfl ?_
    refine fs_getr (pc2 := 18) rfl rfl rfl (by assumption) rfl ?_
    refine fs_aload_n (pc2 := 19) rfl rfl rfl rfl ?_
    refine fs_geti (pc2 := 22) rfl rfl rfl (by assumption) rfl ?_
    refine fs_iload_n (pc2 := 23) rfl rfl rfl rfl ?_
    refine fs_i2b (pc2 := 24) rfl rfl rfl ?_
    refine fs_bast (pc2 := 25) rfl rfl rfl rfl (by assumption) hin ?_
    refine fs_aload_n (pc2 := 26) rfl rfl rfl rfl ?_
    refine fs_getr (pc2 := 29) rfl rfl rfl (by assumption) rfl ?_
    refine fs_aload_n (pc2 := 30) rfl rfl rfl rfl ?_
    refine fs_geti (pc2 := 33) rfl rfl rfl (by assumption) rfl ?_
    refine fs_iconst (pc2 := 34) rfl rfl rfl ?_
    refine fs_iadd (pc2 := 35) rfl rfl rfl ?_
    refine fs_iload_n (pc2 := 36) rfl rfl rfl rfl ?_
    refine fs_bipush (pc2 := 38) rfl rfl rfl ?_
    refine fs_ishr (pc2 := 39) rfl rfl rfl ?_
    refine fs_i2b (pc2 := 40) rfl rfl rfl ?_
    refine fs_bast (pc2 := 41) rfl rfl rfl rfl (by assumption) (hin2 _) ?_
    refine fs_aload_n (pc2 := 42) rfl rfl rfl rfl ?_
    first | refine fs_dup_r (pc2 := 43) rfl rfl rfl ?_ | refine fs_dup_i (pc2 := 43) rfl rfl rfl ?_
    refine fs_geti (pc2 := 46) rfl rfl rfl (by assumption) rfl ?_
    refine fs_iconst (pc2 := 47) rfl rfl rfl ?_
    refine fs_iadd (pc2 := 48) rfl rfl rfl ?_
    refine fs_puti (pc2 := 51) rfl rfl rfl (by assumption) rfl True.intro ?_
    refine fs_ret rfl rfl ?_
    refine hP _ _ _ _ ⟨rfl, rfl, rfl, ?_, fun a h1 h2 => by rw [up2_o h1, up2_o h2, up2_o h2]⟩
    have c1 : (nI k).toInt8.toInt32 = sb (k % 256) := by rw [sb_bt8, bt8_nI (by omega)]
    have c2 : (nI k >>> ((8 : Int32) &&& 31)).toInt8.toInt32 = sb (k / 256) := by rw [nI_shr8 (by omega), sb_bt8, bt8_nI (by omega), Nat.mod_eq_of_lt (by omega)]
    simp only [up2_o hne, hr5]
    rw [nI_clamp hr.lt, nI_1, nI_clamp (by omega), c1, c2, show ev_bn 3 (sb (k % 256)) = sb (k % 256) from sb_nar2 _, show ev_bn 3 (sb (k / 256)) = sb (k / 256) from sb_nar2 _, show nI xs.length + 2 = nI (xs.length + 2) from nI_add _ 2]
    have s1 := hr.push (b := k % 256) (by omega) (by omega)
    have s2 := s1.push (b := k / 256) (by omega) (by simp; omega)
    rw [List.append_assoc] at s2
    have e3 : (xs ++ [k % 256]).length = xs.length + 1 := by simp
    rw [e3, up2_swap (k := r) (k2 := r + 1) hne, up2_back] at s2
    exact s2
set_option maxRecDepth 100000 in
theorem e_Row_at {u : Int32} (hr : Row sh V r room xs) : fl_M cy z0 ext (d + 1) m_X3_at [.ref (z0 + r), .int u] sh V n (fun v' sh' V' n' => v' = some (.int (if 0 ≤ u ∧ u < nI xs.length then nI (xs.getD u.toNatClampNeg 0) else -1)) ∧ sh' = sh ∧ n' = n ∧ V' = V) := by
  obtain ⟨⟨hr0, hr1⟩, hr2, hr3, hr4, hr5, hr6⟩ := id hr
  refine fs_body rfl rfl (fun Ret hP => ?_)
  refine fs_iload_n (pc2 := 1) rfl rfl rfl rfl ?_
  refine fs_if_lt (pc2 := 4) rfl rfl rfl (fun h1 => ?_) (fun h1 => ?_)
  · refine fs_iconst (pc2 := 26) rfl rfl rfl ?_
    refine fs_iret rfl rfl True.intro ?_
    refine hP _ _ _ _ ⟨?_, rfl, rfl, rfl⟩
    rw [if_neg (fun q => Int32.not_le.mpr h1 q.1)]
  · refine fs_iload_n (pc2 := 5) rfl rfl rfl rfl ?_
    refine fs_aload_n (pc2 := 6) rfl rfl rfl rfl ?_
    refine fs_geti (pc2 := 9) rfl rfl rfl (by assumption) rfl ?_
    refine fs_icmp_ge (pc2 := 12) rfl rfl rfl (fun h9 => ?_) (fun h9 => ?_)
    · refine fs_iconst (pc2 := 26) rfl rfl rfl ?_
      refine fs_iret rfl rfl True.intro ?_
      refine hP _ _ _ _ ⟨?_, rfl, rfl, rfl⟩
      rw [if_neg (fun q => h9 (by rw [hr5]; exact q.2))]
    · obtain ⟨j, hj, rfl⟩ : ∃ j : Nat, j < xs.length ∧ u = nI j := by
        obtain ⟨j, hj, e⟩ := nI_of h1
        refine ⟨j, ?_, e⟩
        rw [hr5, e] at h9
        exact (nI_ltI hj hr.lt).mp h9
      have hin : vp_in (nI j) room := vp_in_nI (by omega) (by omega)
      obtain ⟨b, hx⟩ : ∃ b, xs[j]? = some b := ⟨_, List.getElem?_eq_getElem hj⟩
      have hb : b < 256 := hr4 b (List.mem_of_getElem? hx)
      have hg : V (r + 1) (nI j).toNatClampNeg = sb b := by rw [nI_clamp (by omega)]; exact hr6 j b hx
      have hgd : xs.getD (nI j).toNatClampNeg 0 = b := by rw [nI_clamp (by omega), List.getD_eq_getElem?_getD, hx]; rfl
      refine fs_aload_n (pc2 := 13) rfl rfl rfl rfl ?_
      refine fs_getr (pc2 := 16) rfl rfl rfl (by assumption) rfl ?_
      refine fs_iload_n (pc2 := 17) rfl rfl rfl rfl ?_
      refine fs_bald (pc2 := 18) rfl rfl rfl rfl (by assumption) hin ?_
      refine fs_sipush (pc2 := 21) rfl rfl rfl ?_
      refine fs_iand (pc2 := 22) rfl rfl rfl ?_
      refine fs_goto rfl rfl ?_
      refine fs_iret rfl rfl True.intro ?_
      refine hP _ _ _ _ ⟨?_, rfl, rfl, rfl⟩
      rw [if_pos ⟨Int32.not_lt.mp h1, by rw [← hr5]; exact h9⟩, hg, hgd, sb_255 hb]
end ROW
