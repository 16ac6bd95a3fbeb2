/-! CreditLink$Row -/
def isRow (sh : fl_S) (r room : Nat) : Prop := sh r = some (.inr (4, [some (some (r + 1)), none])) ∧ sh (r + 1) = some (.inl (0, room, none))
section ROW
variable {cy : Nat → ClassId} {z0 : Nat} {ext : Nat → Nat → List Value → ev_H → Nat → ev_P → Prop} {d : Nat} {sh : fl_S} {V : fl_V} {n r room : Nat}
set_option maxRecDepth 100000 in
theorem e_Row_clear (hr : isRow sh r room) : fl_M cy z0 ext (d + 1) m_X3_clear [.ref (z0 + r)] sh V n (fun v sh' V' n' => v = none ∧ sh' = sh ∧ V' = up2 V r 1 0 ∧ n' = n) := by
  obtain ⟨hr0, hr1⟩ := hr
  refine fs_body rfl rfl (fun Ret hP => ?_)
  refine fs_aload_n (pc2 := 1) rfl rfl rfl rfl ?_
  refine fs_iconst (pc2 := 2) rfl rfl rfl ?_
  refine fs_puti (pc2 := 5) rfl rfl rfl (by assumption) rfl True.intro ?_
  refine fs_ret rfl rfl ?_
  exact hP _ _ _ _ ⟨rfl, rfl, rfl, rfl⟩
set_option maxRecDepth 100000 in
theorem e_Row_add {v : Int32} (hr : isRow sh r room) (hlt : V r 1 < Int32.ofNat room) (hin : vp_in (V r 1) room) : fl_M cy z0 ext (d + 1) m_X3_add [.ref (z0 + r), .int v] sh V n (fun v' sh' V' n' => v' = none ∧ sh' = sh ∧ V' = up2 (up2 V (r + 1) (V r 1).toNatClampNeg (vp_nar .byte v.toInt8.toInt32)) r 1 (V r 1 + 1) ∧ n' = n) := by
  obtain ⟨hr0, hr1⟩ := hr
  refine fs_body rfl rfl (fun Ret hP => ?_)
  refine fs_aload_n (pc2 := 1) rfl rfl rfl rfl ?_
  refine fs_geti (pc2 := 4) rfl rfl rfl (by assumption) rfl ?_
  refine fs_aload_n (pc2 := 5) rfl rfl rfl rfl ?_
  refine fs_getr (pc2 := 8) rfl rfl rfl (by assumption) rfl ?_
  refine fs_alen (pc2 := 9) rfl rfl rfl (by assumption) ?_
  refine fs_icmp_ge (pc2 := 12) rfl rfl rfl (fun h9 => ?_) (fun h9 => ?_)
  · exact absurd hlt h9
  · refine fs_aload_n (pc2 := 13) rfl rfl rfl rfl ?_
    refine fs_getr (pc2 := 16) rfl rfl rfl (by assumption) rfl ?_
    refine fs_aload_n (pc2 := 17) rfl rfl rfl rfl ?_
    refine fs_geti (pc2 := 20) rfl rfl rfl (by assumption) rfl ?_
    refine fs_iload_n (pc2 := 21) rfl rfl rfl rfl ?_
    refine fs_i2b (pc2 := 22) rfl rfl rfl ?_
    refine fs_bast (pc2 := 23) rfl rfl rfl rfl (by assumption) (by assumption) ?_
    refine fs_aload_n (pc2 := 24) rfl rfl rfl rfl ?_
    first | refine fs_dup_r (pc2 := 25) rfl rfl rfl ?_ | refine fs_dup_i (pc2 := 25) rfl rfl rfl ?_
    refine fs_geti (pc2 := 28) rfl rfl rfl (by assumption) rfl ?_
    refine fs_iconst (pc2 := 29) rfl rfl rfl ?_
    refine fs_iadd (pc2 := 30) rfl rfl rfl ?_
    refine fs_puti (pc2 := 33) rfl rfl rfl (by assumption) rfl True.intro ?_
    refine fs_ret rfl rfl ?_
    exact hP _ _ _ _ ⟨rfl, rfl, rfl, rfl⟩
end ROW
