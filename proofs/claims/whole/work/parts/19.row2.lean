/-! CreditLink$Row: numberAt, addPart, the constructor -/
/-- the number of two bytes at j, the lower one first; 0 where there is none -/
def num2 (xs : List Nat) (j : Nat) : Nat := if j + 1 < xs.length then xs.getD j 0 + 256 * xs.getD (j + 1) 0 else 0
theorem num2_lt {xs : List Nat} (h : ∀ b ∈ xs, b < 256) (j : Nat) : num2 xs j < 65536 := by
  unfold num2
  split
  · next hj =>
    have h1 : xs.getD j 0 < 256 := by rw [List.getD_eq_getElem?_getD, List.getElem?_eq_getElem (by omega)]; exact h _ (List.getElem_mem _)
    have h2 : xs.getD (j + 1) 0 < 256 := by rw [List.getD_eq_getElem?_getD, List.getElem?_eq_getElem hj]; exact h _ (List.getElem_mem _)
    omega
  · decide
theorem Row.byte {sh : fl_S} {V : fl_V} {r room : Nat} {xs : List Nat} (h : Row sh V r room xs) {j : Nat} (hj : j < xs.length) : V (r + 1) j = sb (xs.getD j 0) ∧ xs.getD j 0 < 256 := by
  obtain ⟨g1, g2, g3, g4, g5, g6⟩ := h
  have hx : xs[j]? = some (xs.getD j 0) := by rw [List.getD_eq_getElem?_getD, List.getElem?_eq_getElem hj]; rfl
  exact ⟨g6 j _ hx, g4 _ (List.mem_of_getElem? hx)⟩
section ROW2
variable {cy : Nat → ClassId} {z0 : Nat} {ext : Nat → Nat → List Value → ev_H → Nat → ev_P → Prop} {d : Nat} {sh : fl_S} {V : fl_V} {n r room : Nat} {xs : List Nat}
set_option maxRecDepth 100000 in
theorem e_Row_numberAt {j : Nat} (hj : j < 2 ^ 30) (hr : Row sh V r room xs) : fl_M cy z0 ext (d + 1) m_X3_numberAt [.ref (z0 + r), .int (nI j)] sh V n (fun v' sh' V' n' => v' = some (.int (nI (num2 xs j))) ∧ sh' = sh ∧ n' = n ∧ V' = V) := by
  obtain ⟨⟨hr0, hr1⟩, hr2, hr3, hr4, hr5, hr6⟩ := id hr
  refine fs_body rfl rfl (fun Ret hP => ?_)
  refine fs_iload_n (pc2 := 1) rfl rfl rfl rfl ?_
  refine fs_if_lt (pc2 := 4) rfl rfl rfl (fun h1 => ?_) (fun h1 => ?_)
  · exact absurd h1 (nI_pos (by omega))
  · refine fs_iload_n (pc2 := 5) rfl rfl rfl rfl ?_
    refine fs_aload_n (pc2 := 6) rfl rfl rfl rfl ?_
    refine fs_geti (pc2 := 9) rfl rfl rfl (by assumption) rfl ?_
    refine fs_iconst (pc2 := 10) rfl rfl rfl ?_
    refine fs_isub (pc2 := 11) rfl rfl rfl ?_
    refine fs_icmp_ge (pc2 := 14) rfl rfl rfl (fun h11 => ?_) (fun h11 => ?_)
    · refine fs_iconst (pc2 := 44) rfl rfl rfl ?_
      refine fs_iret rfl rfl True.intro ?_
      refine hP _ _ _ _ ⟨?_, rfl, rfl, rfl⟩
      have hl : ¬ j + 1 < xs.length := by
        intro q
        apply h11
        rw [hr5, show (1 : Int32) = nI 1 from rfl, pk_sub (by omega)]
        exact nI_lt (by omega) (by omega)
      unfold num2
      rw [if_neg hl]
      rfl
    · have hl : j + 1 < xs.length := by
        rw [hr5] at h11
        rcases Nat.lt_or_ge (j + 1) xs.length with q | q
        · exact q
        · exfalso
          rcases Nat.eq_zero_or_pos xs.length with z | z
          · rw [z] at h11
            exact absurd h11 (nI_nlt_m1 j (by omega))
          · rw [show (1 : Int32) = nI 1 from rfl, pk_sub z] at h11
            exact absurd ((nI_ltI (by omega) (by omega)).mp h11) (by omega)
      have i1 : vp_in (nI j) room := vp_in_nI (by omega) (by omega)
      have i2 : vp_in (nI j + 1) room := by rw [nI_1]; exact vp_in_nI (by omega) (by omega)
      obtain ⟨b1, b2⟩ := hr.byte (j := j) (by omega)
      obtain ⟨b3, b4⟩ := hr.byte (j := j + 1) hl
      refine fs_aload_n (pc2 := 15) rfl rfl rfl rfl ?_
      refine fs_getr (pc2 := 18) rfl rfl rfl (by assumption) rfl ?_
      refine fs_iload_n (pc2 := 19) rfl rfl rfl rfl ?_
      refine fs_bald (pc2 := 20) rfl rfl rfl rfl (by assumption) i1 ?_
      refine fs_sipush (pc2 := 23) rfl rfl rfl ?_
      refine fs_iand (pc2 := 24) rfl rfl rfl ?_
      refine fs_aload_n (pc2 := 25) rfl rfl rfl rfl ?_
      refine fs_getr (pc2 := 28) rfl rfl rfl (by assumption) rfl ?_
      refine fs_iload_n (pc2 := 29) rfl rfl rfl rfl ?_
      refine fs_iconst (pc2 := 30) rfl rfl rfl ?_
      refine fs_iadd (pc2 := 31) rfl rfl rfl ?_
      refine fs_bald (pc2 := 32) rfl rfl rfl rfl (by assumption) i2 ?_
      refine fs_sipush (pc2 := 35) rfl rfl rfl ?_
      refine fs_iand (pc2 := 36) rfl rfl rfl ?_
      refine fs_bipush (pc2 := 38) rfl rfl rfl ?_
      refine fs_ishl (pc2 := 39) rfl rfl rfl ?_
      refine fs_ior (pc2 := 40) rfl rfl rfl ?_
      refine fs_goto rfl rfl ?_
      refine fs_iret rfl rfl True.intro ?_
      refine hP _ _ _ _ ⟨?_, rfl, rfl, rfl⟩
      unfold num2
      rw [if_pos hl, nI_1, nI_clamp (by omega), nI_clamp (by omega), b1, b3, sb_255 b2, sb_255 b4, nI_two b2 (by omega)]
theorem take_more {ys : List Nat} {s i : Nat} (h : s + i < ys.length) : (ys.drop s).take (i + 1) = (ys.drop s).take i ++ [ys.getD (s + i) 0] := by
  rw [List.take_add_one, List.getElem?_drop, List.getElem?_eq_getElem h, List.getD_eq_getElem?_getD, List.getElem?_eq_getElem h]
  rfl
theorem take_same {ys : List Nat} {s i : Nat} (h : ys.length ≤ s + i) : (ys.drop s).take (i + 1) = (ys.drop s).take i := by
  rw [List.take_of_length_le (by simp; omega), List.take_of_length_le (by simp; omega)]
set_option maxRecDepth 100000 in
set_option maxHeartbeats 4000000 in
theorem e_Row_addPart_loop {q room2 s m : Nat} {ys : List Nat} {V0 : fl_V} {Ret : ev_P} (hs : s < 2 ^ 20) (hm : m < 2 ^ 20) (d1 : q ≠ r) (d2 : q ≠ r + 1) (d3 : q + 1 ≠ r) (hfit : xs.length + ((ys.drop s).take m).length ≤ room)
    (hP : ∀ V', Row sh V' r room (xs ++ (ys.drop s).take m) → (∀ a, a ≠ r → a ≠ r + 1 → V' a = V0 a) → Ret none (fl_f cy z0 sh V') (z0 + n)) :
    ∀ (k i : Nat), i + k = m → ∀ (V : fl_V) (T : List (Nat × Value)), Row sh V r room (xs ++ (ys.drop s).take i) → Row sh V q room2 ys → (∀ a, a ≠ r → a ≠ r + 1 → V a = V0 a) → (T = [] ∨ ∃ w, T = [(5, .int w)]) → fl_R cy z0 (ev_M cy ext d) 3 0 0 6 none kc_X3_addPart Ret 3 ([(0, .ref (z0 + r)), (1, .ref (z0 + q)), (2, .int (nI s)), (3, .int (nI m)), (4, .int (nI i))] ++ T) [] sh V n 0 0 := by
  intro k
  induction k with
  | zero =>
    intro i hik V T hr hq hfr hT
    have him : i = m := by omega
    subst him
    refine fs_iload (pc2 := 5) rfl rfl rfl rfl ?_
    refine fs_iload_n (pc2 := 6) rfl rfl rfl rfl ?_
    refine fs_icmp_ge (pc2 := 9) rfl rfl rfl (fun h6 => ?_) (fun h6 => ?_)
    · refine fs_ret rfl rfl ?_
      exact hP V hr hfr
    · exact absurd h6 (nI_nlt (Nat.le_refl _) (by omega))
  | succ k ih =>
    intro i hik V T hr hq hfr hT
    obtain ⟨⟨hr0, hr1⟩, hr2, hr3, hr4, hr5, hr6⟩ := id hr
    obtain ⟨⟨hq0, hq1⟩, hq2, hq3, hq4, hq5, hq6⟩ := id hq
    have hne : r ≠ r + 1 := by omega
    have hlen : (xs ++ (ys.drop s).take i).length = xs.length + ((ys.drop s).take i).length := by simp
    have hstep : s + i < ys.length → xs.length + ((ys.drop s).take i).length < room := by
      intro hx
      have h1 := congrArg List.length (take_more (ys := ys) hx)
      have h2 : ((ys.drop s).take (i + 1)).length ≤ ((ys.drop s).take m).length := by simp only [List.length_take, List.length_drop]; omega
      simp only [List.length_append, List.length_singleton] at h1
      omega
    rcases hT with rfl | ⟨w, rfl⟩
    · refine fs_iload (pc2 := 5) rfl rfl rfl rfl ?_
      refine fs_iload_n (pc2 := 6) rfl rfl rfl rfl ?_
      refine fs_icmp_ge (pc2 := 9) rfl rfl rfl (fun h6 => ?_) (fun h6 => ?_)
      · exact absurd (nI_lt (by omega) (by omega)) h6
      · refine fs_iload_n (pc2 := 10) rfl rfl rfl rfl ?_
        refine fs_iload (pc2 := 12) rfl rfl rfl rfl ?_
        refine fs_iadd (pc2 := 13) rfl rfl rfl ?_
        refine fs_istore (pc2 := 15) rfl rfl rfl (Nat.le_of_ble_eq_true rfl) ?_
        refine fs_iload (pc2 := 17) rfl rfl rfl rfl ?_
        refine fs_if_lt (pc2 := 20) rfl rfl rfl (fun h17 => ?_) (fun h17 => ?_)
        · rw [nI_add] at h17
          exact absurd h17 (nI_pos (by omega))
        · refine fs_iload (pc2 := 22) rfl rfl rfl rfl ?_
          refine fs_aload_n (pc2 := 23) rfl rfl rfl rfl ?_
          refine fs_geti (pc2 := 26) rfl rfl rfl (by assumption) rfl ?_
          refine fs_icmp_ge (pc2 := 29) rfl rfl rfl (fun h26 => ?_) (fun h26 => ?_)
          · have hge : ys.length ≤ s + i := by
              rw [nI_add, hq5] at h26
              exact Nat.not_lt.mp (fun z => h26 (nI_lt z hq.lt))
            refine fs_iinc (pc2 := 70) rfl rfl rfl (Nat.le_of_ble_eq_true rfl) rfl ?_
            refine fs_goto rfl rfl ?_
            rw [nI_1 i]
            exact ih (i + 1) (by omega) V _ (by rw [take_same hge]; exact hr) hq hfr (Or.inr ⟨_, rfl⟩)
          · have hx : s + i < ys.length := by
              rw [nI_add, hq5] at h26
              exact (nI_ltI (by omega) hq.lt).mp h26
            have hs2 := hstep hx
            have i1 : vp_in (nI s + nI i) room2 := by rw [nI_add]; exact vp_in_nI (by omega) (by omega)
            have i2 : vp_in (V r 1) room := by rw [hr5, hlen]; exact vp_in_nI hs2 (by omega)
            refine fs_aload_n (pc2 := 30) rfl rfl rfl rfl ?_
            refine fs_geti (pc2 := 33) rfl rfl rfl (by assumption) rfl ?_
            refine fs_aload_n (pc2 := 34) rfl rfl rfl rfl ?_
            refine fs_getr (pc2 := 37) rfl rfl rfl (by assumption) rfl ?_
            refine fs_alen (pc2 := 38) rfl rfl rfl (by assumption) ?_
            refine fs_icmp_ge (pc2 := 41) rfl rfl rfl (fun h38 => ?_) (fun h38 => ?_)
            · exact absurd (by rw [hr5, hlen]; exact nI_lt hs2 (by omega)) h38
            · refine fs_aload_n (pc2 := 42) rfl rfl rfl rfl ?_
              refine fs_getr (pc2 := 45) rfl rfl rfl (by assumption) rfl ?_
              refine fs_aload_n (pc2 := 46) rfl rfl rfl rfl ?_
              refine fs_geti (pc2 := 49) rfl rfl rfl (by assumption) rfl ?_
              refine fs_aload_n (pc2 := 50) rfl rfl rfl rfl ?_
              refine fs_getr (pc2 := 53) rfl rfl rfl (by assumption) rfl ?_
              refine fs_iload (pc2 := 55) rfl rfl rfl rfl ?_
              refine fs_bald (pc2 := 56) rfl rfl rfl rfl (by assumption) i1 ?_
              refine fs_bast (pc2 := 57) rfl rfl rfl rfl (by assumption) i2 ?_
              refine fs_aload_n (pc2 := 58) rfl rfl rfl rfl ?_
              first | refine fs_dup_r (pc2 := 59) rfl rfl rfl ?_ | refine fs_dup_i (pc2 := 59) rfl rfl rfl ?_
              refine fs_geti (pc2 := 62) rfl rfl rfl (by assumption) rfl ?_
              refine fs_iconst (pc2 := 63) rfl rfl rfl ?_
              refine fs_iadd (pc2 := 64) rfl rfl rfl ?_
              refine fs_puti (pc2 := 67) rfl rfl rfl (by assumption) rfl True.intro ?_
              refine fs_iinc (pc2 := 70) rfl rfl rfl (Nat.le_of_ble_eq_true rfl) rfl ?_
              refine fs_goto rfl rfl ?_
              obtain ⟨b1, b2⟩ := hq.byte hx
              have e1 : up2 (up2 V (r + 1) (V r 1).toNatClampNeg (ev_bn 3 (V (q + 1) (nI s + nI i).toNatClampNeg))) r 1 (up2 V (r + 1) (V r 1).toNatClampNeg (ev_bn 3 (V (q + 1) (nI s + nI i).toNatClampNeg)) r 1 + 1) = up2 (up2 V (r + 1) (xs ++ (ys.drop s).take i).length (sb (ys.getD (s + i) 0))) r 1 (nI ((xs ++ (ys.drop s).take i).length + 1)) := by
                rw [up2_o hne, nI_add, nI_clamp (n := s + i) (by omega), b1, show ev_bn 3 (sb (ys.getD (s + i) 0)) = sb (ys.getD (s + i) 0) from sb_nar2 _, hr5, nI_clamp hr.lt, nI_1]
              rw [e1]
              have g1 := hr.push b2 (by omega)
              rw [List.append_assoc, ← take_more hx] at g1
              rw [nI_1 i]
              exact ih (i + 1) (by omega) _ _ g1 (hq.kept (by rw [up2_o d1, up2_o d2]) (by rw [up2_o d3, up2_o (by omega)])) (fun a h1 h2 => by rw [up2_o h1, up2_o h2]; exact hfr a h1 h2) (Or.inr ⟨_, rfl⟩)
    · refine fs_iload (pc2 := 5) rfl rfl rfl rfl ?_
      refine fs_iload_n (pc2 := 6) rfl rfl rfl rfl ?_
      refine fs_icmp_ge (pc2 := 9) rfl rfl rfl (fun h6 => ?_) (fun h6 => ?_)
      · exact absurd (nI_lt (by omega) (by omega)) h6
      · refine fs_iload_n (pc2 := 10) rfl rfl rfl rfl ?_
        refine fs_iload (pc2 := 12) rfl rfl rfl rfl ?_
        refine fs_iadd (pc2 := 13) rfl rfl rfl ?_
        refine fs_istore (pc2 := 15) rfl rfl rfl (Nat.le_of_ble_eq_true rfl) ?_
        refine fs_iload (pc2 := 17) rfl rfl rfl rfl ?_
        refine fs_if_lt (pc2 := 20) rfl rfl rfl (fun h17 => ?_) (fun h17 => ?_)
        · rw [nI_add] at h17
          exact absurd h17 (nI_pos (by omega))
        · refine fs_iload (pc2 := 22) rfl rfl rfl rfl ?_
          refine fs_aload_n (pc2 := 23) rfl rfl rfl rfl ?_
          refine fs_geti (pc2 := 26) rfl rfl rfl (by assumption) rfl ?_
          refine fs_icmp_ge (pc2 := 29) rfl rfl rfl (fun h26 => ?_) (fun h26 => ?_)
          · have hge : ys.length ≤ s + i := by
              rw [nI_add, hq5] at h26
              exact Nat.not_lt.mp (fun z => h26 (nI_lt z hq.lt))
            refine fs_iinc (pc2 := 70) rfl rfl rfl (Nat.le_of_ble_eq_true rfl) rfl ?_
            refine fs_goto rfl rfl ?_
            rw [nI_1 i]
            exact ih (i + 1) (by omega) V _ (by rw [take_same hge]; exact hr) hq hfr (Or.inr ⟨_, rfl⟩)
          · have hx : s + i < ys.length := by
              rw [nI_add, hq5] at h26
              exact (nI_ltI (by omega) hq.lt).mp h26
            have hs2 := hstep hx
            have i1 : vp_in (nI s + nI i) room2 := by rw [nI_add]; exact vp_in_nI (by omega) (by omega)
            have i2 : vp_in (V r 1) room := by rw [hr5, hlen]; exact vp_in_nI hs2 (by omega)
            refine fs_aload_n (pc2 := 30) rfl rfl rfl rfl ?_
            refine fs_geti (pc2 := 33) rfl rfl rfl (by assumption) rfl ?_
            refine fs_aload_n (pc2 := 34) rfl rfl rfl rfl ?_
            refine fs_getr (pc2 := 37) rfl rfl rfl (by assumption) rfl ?_
            refine fs_alen (pc2 := 38) rfl rfl rfl (by assumption) ?_
            refine fs_icmp_ge (pc2 := 41) rfl rfl rfl (fun h38 => ?_) (fun h38 => ?_)
            · exact absurd (by rw [hr5, hlen]; exact nI_lt hs2 (by omega)) h38
            · refine fs_aload_n (pc2 := 42) rfl rfl rfl rfl ?_
              refine fs_getr (pc2 := 45) rfl rfl rfl (by assumption) rfl ?_
              refine fs_aload_n (pc2 := 46) rfl rfl rfl rfl ?_
              refine fs_geti (pc2 := 49) rfl rfl rfl (by assumption) rfl ?_
              refine fs_aload_n (pc2 := 50) rfl rfl rfl rfl ?_
              refine fs_getr (pc2 := 53) rfl rfl rfl (by assumption) rfl ?_
              refine fs_iload (pc2 := 55) rfl rfl rfl rfl ?_
              refine fs_bald (pc2 := 56) rfl rfl rfl rfl (by assumption) i1 ?_
              refine fs_bast (pc2 := 57) rfl rfl rfl rfl (by assumption) i2 ?_
              refine fs_aload_n (pc2 := 58) rfl rfl rfl rfl ?_
              first | refine fs_dup_r (pc2 := 59) rfl rfl rfl ?_ | refine fs_dup_i (pc2 := 59) rfl rfl rfl ?_
              refine fs_geti (pc2 := 62) rfl rfl rfl (by assumption) rfl ?_
              refine fs_iconst (pc2 := 63) rfl rfl rfl ?_
              refine fs_iadd (pc2 := 64) rfl rfl rfl ?_
              refine fs_puti (pc2 := 67) rfl rfl rfl (by assumption) rfl True.intro ?_
              refine fs_iinc (pc2 := 70) rfl rfl rfl (Nat.le_of_ble_eq_true rfl) rfl ?_
              refine fs_goto rfl rfl ?_
              obtain ⟨b1, b2⟩ := hq.byte hx
              have e1 : up2 (up2 V (r + 1) (V r 1).toNatClampNeg (ev_bn 3 (V (q + 1) (nI s + nI i).toNatClampNeg))) r 1 (up2 V (r + 1) (V r 1).toNatClampNeg (ev_bn 3 (V (q + 1) (nI s + nI i).toNatClampNeg)) r 1 + 1) = up2 (up2 V (r + 1) (xs ++ (ys.drop s).take i).length (sb (ys.getD (s + i) 0))) r 1 (nI ((xs ++ (ys.drop s).take i).length + 1)) := by
                rw [up2_o hne, nI_add, nI_clamp (n := s + i) (by omega), b1, show ev_bn 3 (sb (ys.getD (s + i) 0)) = sb (ys.getD (s + i) 0) from sb_nar2 _, hr5, nI_clamp hr.lt, nI_1]
              rw [e1]
              have g1 := hr.push b2 (by omega)
              rw [List.append_assoc, ← take_more hx] at g1
              rw [nI_1 i]
              exact ih (i + 1) (by omega) _ _ g1 (hq.kept (by rw [up2_o d1, up2_o d2]) (by rw [up2_o d3, up2_o (by omega)])) (fun a h1 h2 => by rw [up2_o h1, up2_o h2]; exact hfr a h1 h2) (Or.inr ⟨_, rfl⟩)
set_option maxRecDepth 100000 in
theorem e_Row_addPart {q room2 s m : Nat} {ys : List Nat} (hs : s < 2 ^ 20) (hm : m < 2 ^ 20) (hr : Row sh V r room xs) (hq : Row sh V q room2 ys) (d1 : q ≠ r) (d2 : q ≠ r + 1) (d3 : q + 1 ≠ r) (hfit : xs.length + ((ys.drop s).take m).length ≤ room) : fl_M cy z0 ext (d + 1) m_X3_addPart [.ref (z0 + r), .ref (z0 + q), .int (nI s), .int (nI m)] sh V n (fun v' sh' V' n' => v' = none ∧ sh' = sh ∧ n' = n ∧ Row sh V' r room (xs ++ (ys.drop s).take m) ∧ ∀ a, a ≠ r → a ≠ r + 1 → V' a = V a) := by
  refine fs_body rfl rfl (fun Ret hP => ?_)
  refine fs_iconst (pc2 := 1) rfl rfl rfl ?_
  refine fs_istore (pc2 := 3) rfl rfl rfl (Nat.le_of_ble_eq_true rfl) ?_
  exact e_Row_addPart_loop hs hm d1 d2 d3 hfit (fun V' g1 g2 => hP _ _ _ _ ⟨rfl, rfl, rfl, g1, g2⟩) m 0 (by omega) V [] (by simpa using hr) hq (fun _ _ _ => rfl) (Or.inl rfl)
end ROW2
