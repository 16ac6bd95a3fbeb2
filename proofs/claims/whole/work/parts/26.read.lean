/-! tests of numbers -/
def isHostB (u : Int32) : Bool := decide (¬ u < 0 ∧ u < 2)
def isChB (u : Int32) : Bool := decide (¬ u < 64 ∧ u < 68)
def isFarB (u : Int32) : Bool := decide (¬ u < 64 ∧ u ≤ 127)
def isOfferB (s m p k : Int32) : Bool := decide (¬ s < 1 ∧ s ≤ 9 ∧ ¬ m < 23 ∧ m ≤ 100 ∧ ¬ p < 23 ∧ p ≤ 100 ∧ ¬ k < 0 ∧ k ≤ 1000)
theorem isChB_nI {k : Nat} (h : k < 2 ^ 31) : isChB (nI k) = decide (64 ≤ k ∧ k < 68) := by
  unfold isChB
  congr 1
  rw [show (64 : Int32) = nI 64 from rfl, show (68 : Int32) = nI 68 from rfl, nI_ltI h (by decide), nI_ltI h (by decide)]
  simp
theorem isFarB_nI {k : Nat} (h : k < 2 ^ 31) : isFarB (nI k) = decide (64 ≤ k ∧ k ≤ 127) := by
  unfold isFarB
  congr 1
  rw [show (64 : Int32) = nI 64 from rfl, show (127 : Int32) = nI 127 from rfl, nI_ltI h (by decide), nI_leI h (by decide)]
  simp
section READ
variable {cy : Nat → ClassId} {z0 : Nat} {ext : Nat → Nat → List Value → ev_H → Nat → ev_P → Prop} {d : Nat} {sh : fl_S} {V : fl_V} {n K a0 hb e : Nat} {rs : List Nat} {H : Ho}
set_option maxRecDepth 100000 in
set_option maxHeartbeats 4000000 in
theorem e_isHost {u : Int32} : fl_M cy z0 ext (d + 1) m_X6_isHost [.int u] sh V n (fun v sh' V' n' => v = some (.int (bI (isHostB u))) ∧ sh' = sh ∧ n' = n ∧ V' = V) := by
  refine fs_body rfl rfl (fun Ret hP => ?_)
  refine fs_iload_n (pc2 := 1) rfl rfl rfl rfl ?_
  refine fs_if_lt (pc2 := 4) rfl rfl rfl (fun h1 => ?_) (fun h1 => ?_)
  · refine fs_iconst (pc2 := 14) rfl rfl rfl ?_
    refine fs_iret rfl rfl (Or.inl rfl) ?_
    refine hP _ _ _ _ ⟨?_, rfl, rfl, rfl⟩
    rw [show isHostB u = false from by simp [isHostB, h1]]
    rfl
  · refine fs_iload_n (pc2 := 5) rfl rfl rfl rfl ?_
    refine fs_iconst (pc2 := 6) rfl rfl rfl ?_
    refine fs_icmp_ge (pc2 := 9) rfl rfl rfl (fun h6 => ?_) (fun h6 => ?_)
    · refine fs_iconst (pc2 := 14) rfl rfl rfl ?_
      refine fs_iret rfl rfl (Or.inl rfl) ?_
      refine hP _ _ _ _ ⟨?_, rfl, rfl, rfl⟩
      rw [show isHostB u = false from by simp [isHostB, h1, h6]]
      rfl
    · refine fs_iconst (pc2 := 10) rfl rfl rfl ?_
      refine fs_goto rfl rfl ?_
      refine fs_iret rfl rfl (Or.inr rfl) ?_
      refine hP _ _ _ _ ⟨?_, rfl, rfl, rfl⟩
      rw [show isHostB u = true from by simp [isHostB, h1, h6]]
      rfl
set_option maxRecDepth 100000 in
set_option maxHeartbeats 4000000 in
theorem e_isChannel {u : Int32} : fl_M cy z0 ext (d + 1) m_X6_isChannel [.int u] sh V n (fun v sh' V' n' => v = some (.int (bI (isChB u))) ∧ sh' = sh ∧ n' = n ∧ V' = V) := by
  refine fs_body rfl rfl (fun Ret hP => ?_)
  refine fs_iload_n (pc2 := 1) rfl rfl rfl rfl ?_
  refine fs_bipush (pc2 := 3) rfl rfl rfl ?_
  refine fs_icmp_lt (pc2 := 6) rfl rfl rfl (fun h3 => ?_) (fun h3 => ?_)
  · refine fs_iconst (pc2 := 17) rfl rfl rfl ?_
    refine fs_iret rfl rfl (Or.inl rfl) ?_
    refine hP _ _ _ _ ⟨?_, rfl, rfl, rfl⟩
    rw [show isChB u = false from by simp [isChB, h3]]
    rfl
  · refine fs_iload_n (pc2 := 7) rfl rfl rfl rfl ?_
    refine fs_bipush (pc2 := 9) rfl rfl rfl ?_
    refine fs_icmp_ge (pc2 := 12) rfl rfl rfl (fun h9 => ?_) (fun h9 => ?_)
    · refine fs_iconst (pc2 := 17) rfl rfl rfl ?_
      refine fs_iret rfl rfl (Or.inl rfl) ?_
      refine hP _ _ _ _ ⟨?_, rfl, rfl, rfl⟩
      rw [show isChB u = false from by simp [isChB, h3, h9]]
      rfl
    · refine fs_iconst (pc2 := 13) rfl rfl rfl ?_
      refine fs_goto rfl rfl ?_
      refine fs_iret rfl rfl (Or.inr rfl) ?_
      refine hP _ _ _ _ ⟨?_, rfl, rfl, rfl⟩
      rw [show isChB u = true from by simp [isChB, h3, h9]]
      rfl
set_option maxRecDepth 100000 in
set_option maxHeartbeats 4000000 in
theorem e_isFar {u : Int32} : fl_M cy z0 ext (d + 1) m_X6_isFar [.int u] sh V n (fun v sh' V' n' => v = some (.int (bI (isFarB u))) ∧ sh' = sh ∧ n' = n ∧ V' = V) := by
  refine fs_body rfl rfl (fun Ret hP => ?_)
  refine fs_iload_n (pc2 := 1) rfl rfl rfl rfl ?_
  refine fs_bipush (pc2 := 3) rfl rfl rfl ?_
  refine fs_icmp_lt (pc2 := 6) rfl rfl rfl (fun h3 => ?_) (fun h3 => ?_)
  · refine fs_iconst (pc2 := 17) rfl rfl rfl ?_
    refine fs_iret rfl rfl (Or.inl rfl) ?_
    refine hP _ _ _ _ ⟨?_, rfl, rfl, rfl⟩
    rw [show isFarB u = false from by simp [isFarB, h3]]
    rfl
  · refine fs_iload_n (pc2 := 7) rfl rfl rfl rfl ?_
    refine fs_bipush (pc2 := 9) rfl rfl rfl ?_
    refine fs_icmp_gt (pc2 := 12) rfl rfl rfl (fun h9 => ?_) (fun h9 => ?_)
    · refine fs_iconst (pc2 := 17) rfl rfl rfl ?_
      refine fs_iret rfl rfl (Or.inl rfl) ?_
      refine hP _ _ _ _ ⟨?_, rfl, rfl, rfl⟩
      rw [show isFarB u = false from by simp [isFarB, h3, h9]]
      rfl
    · refine fs_iconst (pc2 := 13) rfl rfl rfl ?_
      refine fs_goto rfl rfl ?_
      refine fs_iret rfl rfl (Or.inr rfl) ?_
      refine hP _ _ _ _ ⟨?_, rfl, rfl, rfl⟩
      rw [show isFarB u = true from by simp [isFarB, h3, h9]]
      rfl
set_option maxRecDepth 100000 in
set_option maxHeartbeats 4000000 in
theorem e_isOffer {s m p k : Int32} : fl_M cy z0 ext (d + 1) m_X6_isOffer [.int s, .int m, .int p, .int k] sh V n (fun v sh' V' n' => v = some (.int (bI (isOfferB s m p k))) ∧ sh' = sh ∧ n' = n ∧ V' = V) := by
  refine fs_body rfl rfl (fun Ret hP => ?_)
  refine fs_iload_n (pc2 := 1) rfl rfl rfl rfl ?_
  refine fs_iconst (pc2 := 2) rfl rfl rfl ?_
  refine fs_icmp_lt (pc2 := 5) rfl rfl rfl (fun h2 => ?_) (fun h2 => ?_)
  · refine fs_iconst (pc2 := 51) rfl rfl rfl ?_
    refine fs_iret rfl rfl (Or.inl rfl) ?_
    refine hP _ _ _ _ ⟨?_, rfl, rfl, rfl⟩
    rw [show isOfferB s m p k = false from by simp [isOfferB, h2]]
    rfl
  · refine fs_iload_n (pc2 := 6) rfl rfl rfl rfl ?_
    refine fs_bipush (pc2 := 8) rfl rfl rfl ?_
    refine fs_icmp_gt (pc2 := 11) rfl rfl rfl (fun h8 => ?_) (fun h8 => ?_)
    · refine fs_iconst (pc2 := 51) rfl rfl rfl ?_
      refine fs_iret rfl rfl (Or.inl rfl) ?_
      refine hP _ _ _ _ ⟨?_, rfl, rfl, rfl⟩
      rw [show isOfferB s m p k = false from by simp [isOfferB, h2, h8]]
      rfl
    · refine fs_iload_n (pc2 := 12) rfl rfl rfl rfl ?_
      refine fs_bipush (pc2 := 14) rfl rfl rfl ?_
      refine fs_icmp_lt (pc2 := 17) rfl rfl rfl (fun h14 => ?_) (fun h14 => ?_)
      · refine fs_iconst (pc2 := 51) rfl rfl rfl ?_
        refine fs_iret rfl rfl (Or.inl rfl) ?_
        refine hP _ _ _ _ ⟨?_, rfl, rfl, rfl⟩
        rw [show isOfferB s m p k = false from by simp [isOfferB, h2, h8, h14]]
        rfl
      · refine fs_iload_n (pc2 := 18) rfl rfl rfl rfl ?_
        refine fs_bipush (pc2 := 20) rfl rfl rfl ?_
        refine fs_icmp_gt (pc2 := 23) rfl rfl rfl (fun h20 => ?_) (fun h20 => ?_)
        · refine fs_iconst (pc2 := 51) rfl rfl rfl ?_
          refine fs_iret rfl rfl (Or.inl rfl) ?_
          refine hP _ _ _ _ ⟨?_, rfl, rfl, rfl⟩
          rw [show isOfferB s m p k = false from by simp [isOfferB, h2, h8, h14, h20]]
          rfl
        · refine fs_iload_n (pc2 := 24) rfl rfl rfl rfl ?_
          refine fs_bipush (pc2 := 26) rfl rfl rfl ?_
          refine fs_icmp_lt (pc2 := 29) rfl rfl rfl (fun h26 => ?_) (fun h26 => ?_)
          · refine fs_iconst (pc2 := 51) rfl rfl rfl ?_
            refine fs_iret rfl rfl (Or.inl rfl) ?_
            refine hP _ _ _ _ ⟨?_, rfl, rfl, rfl⟩
            rw [show isOfferB s m p k = false from by simp [isOfferB, h2, h8, h14, h20, h26]]
            rfl
          · refine fs_iload_n (pc2 := 30) rfl rfl rfl rfl ?_
            refine fs_bipush (pc2 := 32) rfl rfl rfl ?_
            refine fs_icmp_gt (pc2 := 35) rfl rfl rfl (fun h32 => ?_) (fun h32 => ?_)
            · refine fs_iconst (pc2 := 51) rfl rfl rfl ?_
              refine fs_iret rfl rfl (Or.inl rfl) ?_
              refine hP _ _ _ _ ⟨?_, rfl, rfl, rfl⟩
              rw [show isOfferB s m p k = false from by simp [isOfferB, h2, h8, h14, h20, h26, h32]]
              rfl
            · refine fs_iload_n (pc2 := 36) rfl rfl rfl rfl ?_
              refine fs_if_lt (pc2 := 39) rfl rfl rfl (fun h36 => ?_) (fun h36 => ?_)
              · refine fs_iconst (pc2 := 51) rfl rfl rfl ?_
                refine fs_iret rfl rfl (Or.inl rfl) ?_
                refine hP _ _ _ _ ⟨?_, rfl, rfl, rfl⟩
                rw [show isOfferB s m p k = false from by simp [isOfferB, h2, h8, h14, h20, h26, h32, h36]]
                rfl
              · refine fs_iload_n (pc2 := 40) rfl rfl rfl rfl ?_
                refine fs_sipush (pc2 := 43) rfl rfl rfl ?_
                refine fs_icmp_gt (pc2 := 46) rfl rfl rfl (fun h43 => ?_) (fun h43 => ?_)
                · refine fs_iconst (pc2 := 51) rfl rfl rfl ?_
                  refine fs_iret rfl rfl (Or.inl rfl) ?_
                  refine hP _ _ _ _ ⟨?_, rfl, rfl, rfl⟩
                  rw [show isOfferB s m p k = false from by simp [isOfferB, h2, h8, h14, h20, h26, h32, h36, h43]]
                  rfl
                · refine fs_iconst (pc2 := 47) rfl rfl rfl ?_
                  refine fs_goto rfl rfl ?_
                  refine fs_iret rfl rfl (Or.inr rfl) ?_
                  refine hP _ _ _ _ ⟨?_, rfl, rfl, rfl⟩
                  rw [show isOfferB s m p k = true from by simp [isOfferB, h2, h8, h14, h20, h26, h32, h36, h43]]
                  rfl
set_option maxRecDepth 100000 in
set_option maxHeartbeats 4000000 in
theorem e_told {k : Nat} (hk : k < 2 ^ 20) (hH : Host sh V n K a0 hb e rs H) : fl_M cy z0 ext (d + 2) m_X1_told [.ref (z0 + hb), .int (nI k)] sh V n (fun v sh' V' n' => v = some (.int (nI (num2 H.2.2.2.2.2.2 (8 + 2 * k)))) ∧ sh' = sh ∧ n' = n ∧ V' = V) := by
  obtain ⟨⟨f1, ⟨gc, f2, f3⟩, f4, f5, f6⟩, HC, HS, ⟨wh, HW⟩, HQ, HB, HG, HI⟩ := id hH
  unfold isHo at f1
  obtain ⟨b1, b2⟩ := id HB.1
  obtain ⟨t1, t2⟩ := id HG.1
  have al0 := HQ.1
  unfold eAl at al0
  have lnG : H.2.2.2.2.2.2.length ≤ 128 := HG.2.2.1
  have lnB : H.2.2.2.2.2.1.length ≤ 128 := HB.2.2.1
  have eG : V (hb + 182) 1 = nI H.2.2.2.2.2.2.length := HG.2.2.2.2.1
  have eB : V (hb + 180) 1 = nI H.2.2.2.2.2.1.length := HB.2.2.2.2.1
  have e1 : (8 : Int32) + 2 * nI k = nI (8 + 2 * k) := by rw [show (2 : Int32) = nI 2 from rfl, show (8 : Int32) = nI 8 from rfl, pk_mul, nI_add]
  refine fs_body rfl rfl (fun Ret hP => ?_)
  refine fs_aload_n (pc2 := 1) rfl rfl rfl rfl ?_
  refine fs_getr (pc2 := 4) rfl rfl rfl (by assumption) rfl ?_
  refine fs_bipush (pc2 := 6) rfl rfl rfl ?_
  refine fs_iconst (pc2 := 7) rfl rfl rfl ?_
  refine fs_iload_n (pc2 := 8) rfl rfl rfl rfl ?_
  refine fs_imul (pc2 := 9) rfl rfl rfl ?_
  refine fs_iadd (pc2 := 10) rfl rfl rfl ?_
  refine fs_callv (pc2 := 13) rfl rfl rfl rfl ⟨rfl, rfl⟩ (Nat.le_of_ble_eq_true rfl) (Nat.le_of_ble_eq_true rfl) (Nat.le_of_ble_eq_true rfl) (fs_rcv rfl (by assumption)) (by rw [e1]; exact e_Row_numberAt (by omega) HG) (fun v9 sh9 V9 n9 hp9 => ?_)
  obtain ⟨ea9, eb9, ec9, hv9⟩ := hp9
  cases ea9
  obtain rfl := eb9.symm
  obtain rfl := ec9.symm
  cases hv9
  refine fs_iret rfl rfl True.intro ?_
  exact hP _ _ _ _ ⟨rfl, rfl, rfl, rfl⟩
def ho_has (H : Ho) (s : Nat) : Bool := decide (1 ≤ s ∧ s ≤ 9 ∧ 0 < H.2.2.1 0 s)
set_option maxRecDepth 100000 in
set_option maxHeartbeats 4000000 in
theorem e_hasService {s : Nat} (hs : s < 65536) (hH : Host sh V n K a0 hb e rs H) : fl_M cy z0 ext (d + 1) m_X1_hasService [.ref (z0 + hb), .int (nI s)] sh V n (fun v sh' V' n' => v = some (.int (bI (ho_has H s))) ∧ sh' = sh ∧ n' = n ∧ V' = V) := by
  obtain ⟨⟨f1, ⟨gc, f2, f3⟩, f4, f5, f6⟩, HC, HS, ⟨wh, HW⟩, HQ, HB, HG, HI⟩ := id hH
  unfold isHo at f1
  obtain ⟨b1, b2⟩ := id HB.1
  obtain ⟨t1, t2⟩ := id HG.1
  have al0 := HQ.1
  unfold eAl at al0
  have lnG : H.2.2.2.2.2.2.length ≤ 128 := HG.2.2.1
  have lnB : H.2.2.2.2.2.1.length ≤ 128 := HB.2.2.1
  have eG : V (hb + 182) 1 = nI H.2.2.2.2.2.2.length := HG.2.2.2.2.1
  have eB : V (hb + 180) 1 = nI H.2.2.2.2.2.1.length := HB.2.2.2.2.1
  have s78 := (HS 0 (by omega)).1
  refine fs_body rfl rfl (fun Ret hP => ?_)
  refine fs_iload_n (pc2 := 1) rfl rfl rfl rfl ?_
  refine fs_iconst (pc2 := 2) rfl rfl rfl ?_
  refine fs_icmp_lt (pc2 := 5) rfl rfl rfl (fun h2 => ?_) (fun h2 => ?_)
  · have k2 : s < 1 := c_lt h2 rfl rfl
    refine fs_iconst (pc2 := 25) rfl rfl rfl ?_
    refine fs_iret rfl rfl (Or.inl rfl) ?_
    refine hP _ _ _ _ ⟨?_, rfl, rfl, rfl⟩
    rw [show ho_has H s = false from decide_eq_false (by omega)]
    rfl
  · have k2 : 1 ≤ s := c_nlt h2 rfl rfl
    refine fs_iload_n (pc2 := 6) rfl rfl rfl rfl ?_
    refine fs_bipush (pc2 := 8) rfl rfl rfl ?_
    refine fs_icmp_gt (pc2 := 11) rfl rfl rfl (fun h8 => ?_) (fun h8 => ?_)
    · have k8 : 9 < s := c_nle h8 rfl rfl
      refine fs_iconst (pc2 := 25) rfl rfl rfl ?_
      refine fs_iret rfl rfl (Or.inl rfl) ?_
      refine hP _ _ _ _ ⟨?_, rfl, rfl, rfl⟩
      rw [show ho_has H s = false from decide_eq_false (by omega)]
      rfl
    · have k8 : s ≤ 9 := c_le h8 rfl rfl
      have i1 : vp_in (nI s) 10 := vp_in_nI (by omega) (by decide)
      obtain ⟨a1, a2⟩ := (HS 0 (by omega)).2 s (by omega)
      refine fs_aload_n (pc2 := 12) rfl rfl rfl rfl ?_
      refine fs_getr (pc2 := 15) rfl rfl rfl (by assumption) rfl ?_
      refine fs_iload_n (pc2 := 16) rfl rfl rfl rfl ?_
      refine fs_iald (pc2 := 17) rfl rfl rfl (by assumption) i1 ?_
      refine fs_if_le (pc2 := 20) rfl rfl rfl (fun h17 => ?_) (fun h17 => ?_)
      · rw [nI_clamp (by omega), a1] at h17
        have k17 : H.2.2.1 0 s ≤ 0 := c_le h17 rfl rfl
        refine fs_iconst (pc2 := 25) rfl rfl rfl ?_
        refine fs_iret rfl rfl (Or.inl rfl) ?_
        refine hP _ _ _ _ ⟨?_, rfl, rfl, rfl⟩
        rw [show ho_has H s = false from decide_eq_false (by omega)]
        rfl
      · rw [nI_clamp (by omega), a1] at h17
        have k17 : 0 < H.2.2.1 0 s := c_nle h17 rfl rfl
        refine fs_iconst (pc2 := 21) rfl rfl rfl ?_
        refine fs_goto rfl rfl ?_
        refine fs_iret rfl rfl (Or.inr rfl) ?_
        refine hP _ _ _ _ ⟨?_, rfl, rfl, rfl⟩
        rw [show ho_has H s = true from decide_eq_true ⟨k2, k8, k17⟩]
        rfl
theorem Host.putS1 {sh : fl_S} {V : fl_V} {n K a0 hb e : Nat} {rs : List Nat} {H : Ho} (h : Host sh V n K a0 hb e rs H) {k i v : Nat} (hk3 : k < 3) (hv : v < 65536) : Host sh (up2 V (hb + 78 + k) i (nI v)) n K a0 hb e rs (hoS H (va_up H.2.2.1 k (va_up (H.2.2.1 k) i v))) := by
  obtain ⟨g1, g2, g3, ⟨hh, g4⟩, g5, g6, g7, g8⟩ := h
  refine ⟨g1, fun j hj => ⟨(g2 j hj).1.kept (fun a _ _ => up2_o (by omega)), (g2 j hj).2⟩, fun k2 hq => ⟨(g3 k2 hq).1, fun i2 hi => ?_⟩, ⟨hh, g4.kept (fun a _ _ => up2_o (by omega))⟩, g5.kept (fun a ha => up2_o (by omega)), g6.kept (up2_o (by omega)) (up2_o (by omega)), g7.kept (up2_o (by omega)) (up2_o (by omega)), fun j hj => by rw [up2_o (by omega)]; exact g8 j hj⟩
  by_cases hkk : k2 = k
  · subst hkk
    show up2 V (hb + 78 + k2) i (nI v) (hb + 78 + k2) i2 = nI (va_up H.2.2.1 k2 (va_up (H.2.2.1 k2) i v) k2 i2) ∧ va_up H.2.2.1 k2 (va_up (H.2.2.1 k2) i v) k2 i2 < 65536
    rw [va_up_self]
    by_cases hii : i2 = i
    · subst hii
      rw [va_up_self]
      exact ⟨by simp [up2], hv⟩
    · rw [va_up_ne _ _ hii]
      have := (g3 k2 hq).2 i2 hi
      simpa [up2, hii] using this
  · show up2 V (hb + 78 + k) i (nI v) (hb + 78 + k2) i2 = nI (va_up H.2.2.1 k (va_up (H.2.2.1 k) i v) k2 i2) ∧ va_up H.2.2.1 k (va_up (H.2.2.1 k) i v) k2 i2 < 65536
    rw [va_up_ne _ _ hkk, up2_o (by omega)]
    exact (g3 k2 hq).2 i2 hi
def ho_tell (H : Ho) (s m p k : Nat) : Ho :=
  let S0 := va_up H.2.2.1 0 (va_up (H.2.2.1 0) s m)
  let S1 := va_up S0 1 (va_up (S0 1) s p)
  hoS H (va_up S1 2 (va_up (S1 2) s k))
set_option maxRecDepth 100000 in
set_option maxHeartbeats 4000000 in
theorem e_tellService {s m p k : Nat} (hs : s < 10) (hm : m < 65536) (hp : p < 65536) (hk : k < 65536) (hH : Host sh V n K a0 hb e rs H) : fl_M cy z0 ext (d + 1) m_X1_tellService [.ref (z0 + hb), .int (nI s), .int (nI m), .int (nI p), .int (nI k)] sh V n (fun v sh' V' n' => v = none ∧ sh' = sh ∧ n' = n ∧ Host sh V' n K a0 hb e rs (ho_tell H s m p k) ∧ ∀ a, (a < hb ∨ hb + 184 ≤ a) → V' a = V a) := by
  obtain ⟨⟨f1, ⟨gc, f2, f3⟩, f4, f5, f6⟩, HC, HS, ⟨wh, HW⟩, HQ, HB, HG, HI⟩ := id hH
  unfold isHo at f1
  obtain ⟨b1, b2⟩ := id HB.1
  obtain ⟨t1, t2⟩ := id HG.1
  have al0 := HQ.1
  unfold eAl at al0
  have lnG : H.2.2.2.2.2.2.length ≤ 128 := HG.2.2.1
  have lnB : H.2.2.2.2.2.1.length ≤ 128 := HB.2.2.1
  have eG : V (hb + 182) 1 = nI H.2.2.2.2.2.2.length := HG.2.2.2.2.1
  have eB : V (hb + 180) 1 = nI H.2.2.2.2.2.1.length := HB.2.2.2.2.1
  have s78 := (HS 0 (by omega)).1
  have s79 := (HS 1 (by omega)).1
  have s80 := (HS 2 (by omega)).1
  have i1 : vp_in (nI s) 10 := vp_in_nI (by omega) (by decide)
  refine fs_body rfl rfl (fun Ret hP => ?_)
  refine fs_aload_n (pc2 := 1) rfl rfl rfl rfl ?_
  refine fs_getr (pc2 := 4) rfl rfl rfl (by assumption) rfl ?_
  refine fs_iload_n (pc2 := 5) rfl rfl rfl rfl ?_
  refine fs_iload_n (pc2 := 6) rfl rfl rfl rfl ?_
  refine fs_iast (pc2 := 7) rfl rfl rfl (by assumption) i1 ?_
  refine fs_aload_n (pc2 := 8) rfl rfl rfl rfl ?_
  refine fs_getr (pc2 := 11) rfl rfl rfl (by assumption) rfl ?_
  refine fs_iload_n (pc2 := 12) rfl rfl rfl rfl ?_
  refine fs_iload_n (pc2 := 13) rfl rfl rfl rfl ?_
  refine fs_iast (pc2 := 14) rfl rfl rfl (by assumption) i1 ?_
  refine fs_aload_n (pc2 := 15) rfl rfl rfl rfl ?_
  refine fs_getr (pc2 := 18) rfl rfl rfl (by assumption) rfl ?_
  refine fs_iload_n (pc2 := 19) rfl rfl rfl rfl ?_
  refine fs_iload (pc2 := 21) rfl rfl rfl rfl ?_
  refine fs_iast (pc2 := 22) rfl rfl rfl (by assumption) i1 ?_
  refine fs_ret rfl rfl ?_
  rw [nI_clamp (by omega)]
  exact hP _ _ _ _ ⟨rfl, rfl, rfl, ((hH.putS1 (k := 0) (i := s) (by omega) hm).putS1 (k := 1) (i := s) (by omega) hp).putS1 (k := 2) (i := s) (by omega) hk, fun a ha => by rw [up2_o (by omega), up2_o (by omega), up2_o (by omega)]⟩
def ho_id (H : Ho) : Nat := if H.1 9 < 255 then H.1 9 + 1 else 1
theorem ho_id_lt (H : Ho) : ho_id H < 256 := by unfold ho_id; split <;> omega
set_option maxRecDepth 100000 in
set_option maxHeartbeats 4000000 in
theorem e_nextId (h9 : H.1 9 ≤ 255) (hH : Host sh V n K a0 hb e rs H) : fl_M cy z0 ext (d + 1) m_X1_nextId [.ref (z0 + hb)] sh V n (fun v sh' V' n' => v = some (.int (nI (ho_id H))) ∧ sh' = sh ∧ n' = n ∧ Host sh V' n K a0 hb e rs (hoN H 9 (ho_id H)) ∧ ∀ a, (a < hb ∨ hb + 184 ≤ a) → V' a = V a) := by
  obtain ⟨⟨f1, ⟨gc, f2, f3⟩, f4, f5, f6⟩, HC, HS, ⟨wh, HW⟩, HQ, HB, HG, HI⟩ := id hH
  unfold isHo at f1
  obtain ⟨b1, b2⟩ := id HB.1
  obtain ⟨t1, t2⟩ := id HG.1
  have al0 := HQ.1
  unfold eAl at al0
  have lnG : H.2.2.2.2.2.2.length ≤ 128 := HG.2.2.1
  have lnB : H.2.2.2.2.2.1.length ≤ 128 := HB.2.2.1
  have eG : V (hb + 182) 1 = nI H.2.2.2.2.2.2.length := HG.2.2.2.2.1
  have eB : V (hb + 180) 1 = nI H.2.2.2.2.2.1.length := HB.2.2.2.2.1
  have e9 := HI 9 (by omega)
  refine fs_body rfl rfl (fun Ret hP => ?_)
  refine fs_aload_n (pc2 := 1) rfl rfl rfl rfl ?_
  refine fs_aload_n (pc2 := 2) rfl rfl rfl rfl ?_
  refine fs_geti (pc2 := 5) rfl rfl rfl (by assumption) rfl ?_
  refine fs_sipush (pc2 := 8) rfl rfl rfl ?_
  refine fs_icmp_ge (pc2 := 11) rfl rfl rfl (fun h8 => ?_) (fun h8 => ?_)
  · have k8 : 255 ≤ H.1 9 := c_nlt h8 e9 rfl
    have ei : (1 : Int32) = nI (ho_id H) := by unfold ho_id; rw [if_neg (by omega)]; rfl
    refine fs_iconst (pc2 := 21) rfl rfl rfl ?_
    refine fs_puti (pc2 := 24) rfl rfl rfl (by assumption) rfl True.intro ?_
    refine fs_aload_n (pc2 := 25) rfl rfl rfl rfl ?_
    refine fs_geti (pc2 := 28) rfl rfl rfl (by assumption) rfl ?_
    refine fs_iret rfl rfl True.intro ?_
    rw [ei]
    exact hP _ _ _ _ ⟨by simp [up2], rfl, rfl, hH.putN 9 _, fun a ha => up2_o (by omega)⟩
  · have k8 : H.1 9 < 255 := c_lt h8 e9 rfl
    have ei : V hb 9 + 1 = nI (ho_id H) := by unfold ho_id; rw [if_pos k8, e9, nI_1]
    refine fs_aload_n (pc2 := 12) rfl rfl rfl rfl ?_
    refine fs_geti (pc2 := 15) rfl rfl rfl (by assumption) rfl ?_
    refine fs_iconst (pc2 := 16) rfl rfl rfl ?_
    refine fs_iadd (pc2 := 17) rfl rfl rfl ?_
    refine fs_goto rfl rfl ?_
    refine fs_puti (pc2 := 24) rfl rfl rfl (by assumption) rfl True.intro ?_
    refine fs_aload_n (pc2 := 25) rfl rfl rfl rfl ?_
    refine fs_geti (pc2 := 28) rfl rfl rfl (by assumption) rfl ?_
    refine fs_iret rfl rfl True.intro ?_
    rw [ei]
    exact hP _ _ _ _ ⟨by simp [up2], rfl, rfl, hH.putN 9 _, fun a ha => up2_o (by omega)⟩
def ho_closed (H : Ho) : Option Nat := first4 (fun j => (H.2.1 j).1 1 == 0)
def ho_by (H : Ho) (sid : Nat) (lv : Bool) : Option Nat := first4 (fun j => ((H.2.1 j).1 1 == 1 || (lv && (H.2.1 j).1 1 == 3)) && (H.2.1 j).1 2 == sid)
set_option maxRecDepth 100000 in
set_option maxHeartbeats 4000000 in
theorem e_firstClosed_loop (hH : Host sh V n K a0 hb e rs H) {Ret : ev_P} (hP : Ret (some (fl_r z0 ((ho_closed H).map (fun j => hb + 2 + 19 * j)))) (fl_f cy z0 sh V) (z0 + n)) : ∀ (k i : Nat), i + k = 4 → (∀ j, j < i → ((H.2.1 j).1 1 == 0) = false) → fl_R cy z0 (ev_M cy ext d) 1 0 0 2 (some (.object "CreditLink$Channel")) kc_X1_firstClosed Ret 2 [(0, .ref (z0 + hb)), (1, .int (nI i))] [] sh V n 0 0 := by
  obtain ⟨⟨f1, ⟨gc, f2, f3⟩, f4, f5, f6⟩, HC, HS, ⟨wh, HW⟩, HQ, HB, HG, HI⟩ := id hH
  unfold isHo at f1
  obtain ⟨b1, b2⟩ := id HB.1
  obtain ⟨t1, t2⟩ := id HG.1
  have al0 := HQ.1
  unfold eAl at al0
  have lnG : H.2.2.2.2.2.2.length ≤ 128 := HG.2.2.1
  have lnB : H.2.2.2.2.2.1.length ≤ 128 := HB.2.2.1
  have eG : V (hb + 182) 1 = nI H.2.2.2.2.2.2.length := HG.2.2.2.2.1
  have eB : V (hb + 180) 1 = nI H.2.2.2.2.2.1.length := HB.2.2.2.2.1
  intro k
  induction k with
  | zero =>
    intro i hik hj
    have hi4 : i = 4 := by omega
    subst hi4
    rw [show ho_closed H = none from first4_none hj] at hP
    refine fs_iload_n (pc2 := 3) rfl rfl rfl rfl ?_
    refine fs_iconst (pc2 := 4) rfl rfl rfl ?_
    refine fs_icmp_ge (pc2 := 7) rfl rfl rfl (fun h4 => ?_) (fun h4 => ?_)
    · refine fs_null (pc2 := 33) rfl rfl rfl ?_
      refine fs_aret (q := none) rfl rfl True.intro ?_
      exact hP
    · exact absurd h4 (by decide)
  | succ k ih =>
    intro i hik hj
    have i1 : vp_in (nI i) 4 := vp_in_nI (by omega) (by decide)
    have i2 : gc (nI i).toNatClampNeg = some (hb + 2 + 19 * i) := by rw [nI_clamp (by omega)]; exact f3 i (by omega)
    have hc := (HC i (by omega)).1
    have s0 := hc.1
    unfold isChan at s0
    obtain ⟨e1, l1⟩ := hc.i 1 (by omega)
    refine fs_iload_n (pc2 := 3) rfl rfl rfl rfl ?_
    refine fs_iconst (pc2 := 4) rfl rfl rfl ?_
    refine fs_icmp_ge (pc2 := 7) rfl rfl rfl (fun h4 => ?_) (fun h4 => ?_)
    · exact absurd (nI_lt (a := i) (b := 4) (by omega) (by decide)) h4
    · refine fs_aload_n (pc2 := 8) rfl rfl rfl rfl ?_
      refine fs_getr (pc2 := 11) rfl rfl rfl (by assumption) rfl ?_
      refine fs_iload_n (pc2 := 12) rfl rfl rfl rfl ?_
      refine fs_aald (pc2 := 13) rfl rfl rfl (by assumption) i1 i2 ?_
      refine fs_geti (pc2 := 16) rfl rfl rfl (by assumption) rfl ?_
      refine fs_if_ne (pc2 := 19) rfl rfl rfl (fun h16 => ?_) (fun h16 => ?_)
      · have k16 : (H.2.1 i).1 1 ≠ 0 := c_ne h16 e1 rfl
        refine fs_iinc (pc2 := 29) rfl rfl rfl (Nat.le_of_ble_eq_true rfl) rfl ?_
        refine fs_goto rfl rfl ?_
        rw [nI_1 i]
        refine ih (i + 1) (by omega) (fun j hji => ?_)
        by_cases hj2 : j = i
        · subst hj2; simp [k16]
        · exact hj j (by omega)
      · have k16 : (H.2.1 i).1 1 = 0 := c_eq h16 e1 rfl
        rw [show ho_closed H = some i from first4_some (by omega) (by simp [k16]) hj] at hP
        refine fs_aload_n (pc2 := 20) rfl rfl rfl rfl ?_
        refine fs_getr (pc2 := 23) rfl rfl rfl (by assumption) rfl ?_
        refine fs_iload_n (pc2 := 24) rfl rfl rfl rfl ?_
        refine fs_aald (pc2 := 25) rfl rfl rfl (by assumption) i1 i2 ?_
        refine fs_aret (q := some (hb + 2 + 19 * i)) rfl rfl True.intro ?_
        exact hP
set_option maxRecDepth 100000 in
set_option maxHeartbeats 4000000 in
theorem e_firstClosed (hH : Host sh V n K a0 hb e rs H) : fl_M cy z0 ext (d + 1) m_X1_firstClosed [.ref (z0 + hb)] sh V n (fun v sh' V' n' => v = some (fl_r z0 ((ho_closed H).map (fun j => hb + 2 + 19 * j))) ∧ sh' = sh ∧ n' = n ∧ V' = V) := by
  obtain ⟨⟨f1, ⟨gc, f2, f3⟩, f4, f5, f6⟩, HC, HS, ⟨wh, HW⟩, HQ, HB, HG, HI⟩ := id hH
  unfold isHo at f1
  obtain ⟨b1, b2⟩ := id HB.1
  obtain ⟨t1, t2⟩ := id HG.1
  have al0 := HQ.1
  unfold eAl at al0
  have lnG : H.2.2.2.2.2.2.length ≤ 128 := HG.2.2.1
  have lnB : H.2.2.2.2.2.1.length ≤ 128 := HB.2.2.1
  have eG : V (hb + 182) 1 = nI H.2.2.2.2.2.2.length := HG.2.2.2.2.1
  have eB : V (hb + 180) 1 = nI H.2.2.2.2.2.1.length := HB.2.2.2.2.1
  refine fs_body rfl rfl (fun Ret hP => ?_)
  refine fs_iconst (pc2 := 1) rfl rfl rfl ?_
  refine fs_istore_n (pc2 := 2) rfl rfl rfl (Nat.le_of_ble_eq_true rfl) ?_
  exact e_firstClosed_loop hH (hP _ _ _ _ ⟨rfl, rfl, rfl, rfl⟩) 4 0 (by omega) (fun j hj => by omega)
set_option maxRecDepth 100000 in
set_option maxHeartbeats 4000000 in
theorem e_firstBy_loop (hH : Host sh V n K a0 hb e rs H) {sid : Nat} {lv : Bool} (hid : sid < 65536) {Ret : ev_P} (hP : Ret (some (fl_r z0 ((ho_by H sid lv).map (fun j => hb + 2 + 19 * j)))) (fl_f cy z0 sh V) (z0 + n)) : ∀ (k i : Nat) (T : List (Nat × Value)), i + k = 4 → (T = [] ∨ ∃ q w, T = [(4, .ref q), (5, .int w)]) → (∀ j, j < i → (((H.2.1 j).1 1 == 1 || (lv && (H.2.1 j).1 1 == 3)) && (H.2.1 j).1 2 == sid) = false) → fl_R cy z0 (ev_M cy ext d) 1 0 0 6 (some (.object "CreditLink$Channel")) kc_X1_firstBySignal Ret 2 ([(0, .ref (z0 + hb)), (1, .int (nI sid)), (2, .int (bI lv)), (3, .int (nI i))] ++ T) [] sh V n 0 0 := by
  obtain ⟨⟨f1, ⟨gc, f2, f3⟩, f4, f5, f6⟩, HC, HS, ⟨wh, HW⟩, HQ, HB, HG, HI⟩ := id hH
  unfold isHo at f1
  obtain ⟨b1, b2⟩ := id HB.1
  obtain ⟨t1, t2⟩ := id HG.1
  have al0 := HQ.1
  unfold eAl at al0
  have lnG : H.2.2.2.2.2.2.length ≤ 128 := HG.2.2.1
  have lnB : H.2.2.2.2.2.1.length ≤ 128 := HB.2.2.1
  have eG : V (hb + 182) 1 = nI H.2.2.2.2.2.2.length := HG.2.2.2.2.1
  have eB : V (hb + 180) 1 = nI H.2.2.2.2.2.1.length := HB.2.2.2.2.1
  intro k
  induction k with
  | zero =>
    intro i T hik hT hj
    have hi4 : i = 4 := by omega
    subst hi4
    rw [show ho_by H sid lv = none from first4_none hj] at hP
    refine fs_iload_n (pc2 := 3) rfl rfl rfl rfl ?_
    refine fs_iconst (pc2 := 4) rfl rfl rfl ?_
    refine fs_icmp_ge (pc2 := 7) rfl rfl rfl (fun h4 => ?_) (fun h4 => ?_)
    · refine fs_null (pc2 := 68) rfl rfl rfl ?_
      refine fs_aret (q := none) rfl rfl True.intro ?_
      exact hP
    · exact absurd h4 (by decide)
  | succ k ih =>
    intro i T hik hT hj
    have i1 : vp_in (nI i) 4 := vp_in_nI (by omega) (by decide)
    have i2 : gc (nI i).toNatClampNeg = some (hb + 2 + 19 * i) := by rw [nI_clamp (by omega)]; exact f3 i (by omega)
    have hc := (HC i (by omega)).1
    have s0 := hc.1
    unfold isChan at s0
    obtain ⟨e1, l1⟩ := hc.i 1 (by omega)
    obtain ⟨e2, l2⟩ := hc.i 2 (by omega)
    have go : (((H.2.1 i).1 1 == 1 || (lv && (H.2.1 i).1 1 == 3)) && (H.2.1 i).1 2 == sid) = false → ∀ j, j < i + 1 → (((H.2.1 j).1 1 == 1 || (lv && (H.2.1 j).1 1 == 3)) && (H.2.1 j).1 2 == sid) = false := by
      intro hi j hji
      by_cases hj2 : j = i
      · subst hj2; exact hi
      · exact hj j (by omega)
    rcases hT with rfl | ⟨q, w, rfl⟩
    · refine fs_iload_n (pc2 := 3) rfl rfl rfl rfl ?_
      refine fs_iconst (pc2 := 4) rfl rfl rfl ?_
      refine fs_icmp_ge (pc2 := 7) rfl rfl rfl (fun h4 => ?_) (fun h4 => ?_)
      · exact absurd (nI_lt (a := i) (b := 4) (by omega) (by decide)) h4
      · refine fs_aload_n (pc2 := 8) rfl rfl rfl rfl ?_
        refine fs_getr (pc2 := 11) rfl rfl rfl (by assumption) rfl ?_
        refine fs_iload_n (pc2 := 12) rfl rfl rfl rfl ?_
        refine fs_aald (pc2 := 13) rfl rfl rfl (by assumption) i1 i2 ?_
        refine fs_astore (pc2 := 15) rfl rfl rfl (Nat.le_of_ble_eq_true rfl) ?_
        refine fs_aload (pc2 := 17) rfl rfl rfl rfl ?_
        refine fs_geti (pc2 := 20) rfl rfl rfl (by assumption) rfl ?_
        refine fs_iconst (pc2 := 21) rfl rfl rfl ?_
        refine fs_icmp_eq (pc2 := 24) rfl rfl rfl (fun h21 => ?_) (fun h21 => ?_)
        · have k21 : (H.2.1 i).1 1 = 1 := c_eq h21 e1 rfl
          refine fs_iconst (pc2 := 38) rfl rfl rfl ?_
          refine fs_goto rfl rfl ?_
          refine fs_istore (pc2 := 44) rfl rfl rfl (Nat.le_of_ble_eq_true rfl) ?_
          refine fs_iload (pc2 := 46) rfl rfl rfl rfl ?_
          refine fs_if_eq (pc2 := 49) rfl rfl rfl (fun h46 => ?_) (fun h46 => ?_)
          · exact absurd h46 (by decide)
          · refine fs_aload (pc2 := 51) rfl rfl rfl rfl ?_
            refine fs_geti (pc2 := 54) rfl rfl rfl (by assumption) rfl ?_
            refine fs_iload_n (pc2 := 55) rfl rfl rfl rfl ?_
            refine fs_icmp_ne (pc2 := 58) rfl rfl rfl (fun h55 => ?_) (fun h55 => ?_)
            · have k55 : (H.2.1 i).1 2 ≠ sid := c_ne h55 e2 rfl
              refine fs_iinc (pc2 := 64) rfl rfl rfl (Nat.le_of_ble_eq_true rfl) rfl ?_
              refine fs_goto rfl rfl ?_
              rw [nI_1 i]
              exact ih (i + 1) _ (by omega) (Or.inr ⟨_, _, rfl⟩) (go (by simp [k21, k55]))
            · have k55 : (H.2.1 i).1 2 = sid := c_eq h55 e2 rfl
              rw [show ho_by H sid lv = some i from first4_some (by omega) (by simp [k55, k21]) hj] at hP
              refine fs_aload (pc2 := 60) rfl rfl rfl rfl ?_
              refine fs_aret (q := some (hb + 2 + 19 * i)) rfl rfl True.intro ?_
              exact hP
        · have k21 : (H.2.1 i).1 1 ≠ 1 := c_ne h21 e1 rfl
          refine fs_iload_n (pc2 := 25) rfl rfl rfl rfl ?_
          refine fs_if_eq (pc2 := 28) rfl rfl rfl (fun h25 => ?_) (fun h25 => ?_)
          · have k25 : lv = false := bI_0.mp h25
            refine fs_iconst (pc2 := 42) rfl rfl rfl ?_
            refine fs_istore (pc2 := 44) rfl rfl rfl (Nat.le_of_ble_eq_true rfl) ?_
            refine fs_iload (pc2 := 46) rfl rfl rfl rfl ?_
            refine fs_if_eq (pc2 := 49) rfl rfl rfl (fun h46 => ?_) (fun h46 => ?_)
            · refine fs_iinc (pc2 := 64) rfl rfl rfl (Nat.le_of_ble_eq_true rfl) rfl ?_
              refine fs_goto rfl rfl ?_
              rw [nI_1 i]
              exact ih (i + 1) _ (by omega) (Or.inr ⟨_, _, rfl⟩) (go (by simp [k21, k25]))
            · exact absurd rfl h46
          · have k25 : lv = true := by
              cases lv with
              | true => rfl
              | false => exact absurd rfl h25
            refine fs_aload (pc2 := 30) rfl rfl rfl rfl ?_
            refine fs_geti (pc2 := 33) rfl rfl rfl (by assumption) rfl ?_
            refine fs_iconst (pc2 := 34) rfl rfl rfl ?_
            refine fs_icmp_ne (pc2 := 37) rfl rfl rfl (fun h34 => ?_) (fun h34 => ?_)
            · have k34 : (H.2.1 i).1 1 ≠ 3 := c_ne h34 e1 rfl
              refine fs_iconst (pc2 := 42) rfl rfl rfl ?_
              refine fs_istore (pc2 := 44) rfl rfl rfl (Nat.le_of_ble_eq_true rfl) ?_
              refine fs_iload (pc2 := 46) rfl rfl rfl rfl ?_
              refine fs_if_eq (pc2 := 49) rfl rfl rfl (fun h46 => ?_) (fun h46 => ?_)
              · refine fs_iinc (pc2 := 64) rfl rfl rfl (Nat.le_of_ble_eq_true rfl) rfl ?_
                refine fs_goto rfl rfl ?_
                rw [nI_1 i]
                exact ih (i + 1) _ (by omega) (Or.inr ⟨_, _, rfl⟩) (go (by simp [k21, k25, k34]))
              · exact absurd rfl h46
            · have k34 : (H.2.1 i).1 1 = 3 := c_eq h34 e1 rfl
              refine fs_iconst (pc2 := 38) rfl rfl rfl ?_
              refine fs_goto rfl rfl ?_
              refine fs_istore (pc2 := 44) rfl rfl rfl (Nat.le_of_ble_eq_true rfl) ?_
              refine fs_iload (pc2 := 46) rfl rfl rfl rfl ?_
              refine fs_if_eq (pc2 := 49) rfl rfl rfl (fun h46 => ?_) (fun h46 => ?_)
              · exact absurd h46 (by decide)
              · refine fs_aload (pc2 := 51) rfl rfl rfl rfl ?_
                refine fs_geti (pc2 := 54) rfl rfl rfl (by assumption) rfl ?_
                refine fs_iload_n (pc2 := 55) rfl rfl rfl rfl ?_
                refine fs_icmp_ne (pc2 := 58) rfl rfl rfl (fun h55 => ?_) (fun h55 => ?_)
                · have k55 : (H.2.1 i).1 2 ≠ sid := c_ne h55 e2 rfl
                  refine fs_iinc (pc2 := 64) rfl rfl rfl (Nat.le_of_ble_eq_true rfl) rfl ?_
                  refine fs_goto rfl rfl ?_
                  rw [nI_1 i]
                  exact ih (i + 1) _ (by omega) (Or.inr ⟨_, _, rfl⟩) (go (by simp [k21, k25, k34, k55]))
                · have k55 : (H.2.1 i).1 2 = sid := c_eq h55 e2 rfl
                  rw [show ho_by H sid lv = some i from first4_some (by omega) (by simp [k55, k21, k25, k34]) hj] at hP
                  refine fs_aload (pc2 := 60) rfl rfl rfl rfl ?_
                  refine fs_aret (q := some (hb + 2 + 19 * i)) rfl rfl True.intro ?_
                  exact hP
    · refine fs_iload_n (pc2 := 3) rfl rfl rfl rfl ?_
      refine fs_iconst (pc2 := 4) rfl rfl rfl ?_
      refine fs_icmp_ge (pc2 := 7) rfl rfl rfl (fun h4 => ?_) (fun h4 => ?_)
      · exact absurd (nI_lt (a := i) (b := 4) (by omega) (by decide)) h4
      · refine fs_aload_n (pc2 := 8) rfl rfl rfl rfl ?_
        refine fs_getr (pc2 := 11) rfl rfl rfl (by assumption) rfl ?_
        refine fs_iload_n (pc2 := 12) rfl rfl rfl rfl ?_
        refine fs_aald (pc2 := 13) rfl rfl rfl (by assumption) i1 i2 ?_
        refine fs_astore (pc2 := 15) rfl rfl rfl (Nat.le_of_ble_eq_true rfl) ?_
        refine fs_aload (pc2 := 17) rfl rfl rfl rfl ?_
        refine fs_geti (pc2 := 20) rfl rfl rfl (by assumption) rfl ?_
        refine fs_iconst (pc2 := 21) rfl rfl rfl ?_
        refine fs_icmp_eq (pc2 := 24) rfl rfl rfl (fun h21 => ?_) (fun h21 => ?_)
        · have k21 : (H.2.1 i).1 1 = 1 := c_eq h21 e1 rfl
          refine fs_iconst (pc2 := 38) rfl rfl rfl ?_
          refine fs_goto rfl rfl ?_
          refine fs_istore (pc2 := 44) rfl rfl rfl (Nat.le_of_ble_eq_true rfl) ?_
          refine fs_iload (pc2 := 46) rfl rfl rfl rfl ?_
          refine fs_if_eq (pc2 := 49) rfl rfl rfl (fun h46 => ?_) (fun h46 => ?_)
          · exact absurd h46 (by decide)
          · refine fs_aload (pc2 := 51) rfl rfl rfl rfl ?_
            refine fs_geti (pc2 := 54) rfl rfl rfl (by assumption) rfl ?_
            refine fs_iload_n (pc2 := 55) rfl rfl rfl rfl ?_
            refine fs_icmp_ne (pc2 := 58) rfl rfl rfl (fun h55 => ?_) (fun h55 => ?_)
            · have k55 : (H.2.1 i).1 2 ≠ sid := c_ne h55 e2 rfl
              refine fs_iinc (pc2 := 64) rfl rfl rfl (Nat.le_of_ble_eq_true rfl) rfl ?_
              refine fs_goto rfl rfl ?_
              rw [nI_1 i]
              exact ih (i + 1) _ (by omega) (Or.inr ⟨_, _, rfl⟩) (go (by simp [k21, k55]))
            · have k55 : (H.2.1 i).1 2 = sid := c_eq h55 e2 rfl
              rw [show ho_by H sid lv = some i from first4_some (by omega) (by simp [k55, k21]) hj] at hP
              refine fs_aload (pc2 := 60) rfl rfl rfl rfl ?_
              refine fs_aret (q := some (hb + 2 + 19 * i)) rfl rfl True.intro ?_
              exact hP
        · have k21 : (H.2.1 i).1 1 ≠ 1 := c_ne h21 e1 rfl
          refine fs_iload_n (pc2 := 25) rfl rfl rfl rfl ?_
          refine fs_if_eq (pc2 := 28) rfl rfl rfl (fun h25 => ?_) (fun h25 => ?_)
          · have k25 : lv = false := bI_0.mp h25
            refine fs_iconst (pc2 := 42) rfl rfl rfl ?_
            refine fs_istore (pc2 := 44) rfl rfl rfl (Nat.le_of_ble_eq_true rfl) ?_
            refine fs_iload (pc2 := 46) rfl rfl rfl rfl ?_
            refine fs_if_eq (pc2 := 49) rfl rfl rfl (fun h46 => ?_) (fun h46 => ?_)
            · refine fs_iinc (pc2 := 64) rfl rfl rfl (Nat.le_of_ble_eq_true rfl) rfl ?_
              refine fs_goto rfl rfl ?_
              rw [nI_1 i]
              exact ih (i + 1) _ (by omega) (Or.inr ⟨_, _, rfl⟩) (go (by simp [k21, k25]))
            · exact absurd rfl h46
          · have k25 : lv = true := by
              cases lv with
              | true => rfl
              | false => exact absurd rfl h25
            refine fs_aload (pc2 := 30) rfl rfl rfl rfl ?_
            refine fs_geti (pc2 := 33) rfl rfl rfl (by assumption) rfl ?_
            refine fs_iconst (pc2 := 34) rfl rfl rfl ?_
            refine fs_icmp_ne (pc2 := 37) rfl rfl rfl (fun h34 => ?_) (fun h34 => ?_)
            · have k34 : (H.2.1 i).1 1 ≠ 3 := c_ne h34 e1 rfl
              refine fs_iconst (pc2 := 42) rfl rfl rfl ?_
              refine fs_istore (pc2 := 44) rfl rfl rfl (Nat.le_of_ble_eq_true rfl) ?_
              refine fs_iload (pc2 := 46) rfl rfl rfl rfl ?_
              refine fs_if_eq (pc2 := 49) rfl rfl rfl (fun h46 => ?_) (fun h46 => ?_)
              · refine fs_iinc (pc2 := 64) rfl rfl rfl (Nat.le_of_ble_eq_true rfl) rfl ?_
                refine fs_goto rfl rfl ?_
                rw [nI_1 i]
                exact ih (i + 1) _ (by omega) (Or.inr ⟨_, _, rfl⟩) (go (by simp [k21, k25, k34]))
              · exact absurd rfl h46
            · have k34 : (H.2.1 i).1 1 = 3 := c_eq h34 e1 rfl
              refine fs_iconst (pc2 := 38) rfl rfl rfl ?_
              refine fs_goto rfl rfl ?_
              refine fs_istore (pc2 := 44) rfl rfl rfl (Nat.le_of_ble_eq_true rfl) ?_
              refine fs_iload (pc2 := 46) rfl rfl rfl rfl ?_
              refine fs_if_eq (pc2 := 49) rfl rfl rfl (fun h46 => ?_) (fun h46 => ?_)
              · exact absurd h46 (by decide)
              · refine fs_aload (pc2 := 51) rfl rfl rfl rfl ?_
                refine fs_geti (pc2 := 54) rfl rfl rfl (by assumption) rfl ?_
                refine fs_iload_n (pc2 := 55) rfl rfl rfl rfl ?_
                refine fs_icmp_ne (pc2 := 58) rfl rfl rfl (fun h55 => ?_) (fun h55 => ?_)
                · have k55 : (H.2.1 i).1 2 ≠ sid := c_ne h55 e2 rfl
                  refine fs_iinc (pc2 := 64) rfl rfl rfl (Nat.le_of_ble_eq_true rfl) rfl ?_
                  refine fs_goto rfl rfl ?_
                  rw [nI_1 i]
                  exact ih (i + 1) _ (by omega) (Or.inr ⟨_, _, rfl⟩) (go (by simp [k21, k25, k34, k55]))
                · have k55 : (H.2.1 i).1 2 = sid := c_eq h55 e2 rfl
                  rw [show ho_by H sid lv = some i from first4_some (by omega) (by simp [k55, k21, k25, k34]) hj] at hP
                  refine fs_aload (pc2 := 60) rfl rfl rfl rfl ?_
                  refine fs_aret (q := some (hb + 2 + 19 * i)) rfl rfl True.intro ?_
                  exact hP
set_option maxRecDepth 100000 in
set_option maxHeartbeats 4000000 in
theorem e_firstBy {sid : Nat} {lv : Bool} (hid : sid < 65536) (hH : Host sh V n K a0 hb e rs H) : fl_M cy z0 ext (d + 1) m_X1_firstBySignal [.ref (z0 + hb), .int (nI sid), .int (bI lv)] sh V n (fun v sh' V' n' => v = some (fl_r z0 ((ho_by H sid lv).map (fun j => hb + 2 + 19 * j))) ∧ sh' = sh ∧ n' = n ∧ V' = V) := by
  obtain ⟨⟨f1, ⟨gc, f2, f3⟩, f4, f5, f6⟩, HC, HS, ⟨wh, HW⟩, HQ, HB, HG, HI⟩ := id hH
  unfold isHo at f1
  obtain ⟨b1, b2⟩ := id HB.1
  obtain ⟨t1, t2⟩ := id HG.1
  have al0 := HQ.1
  unfold eAl at al0
  have lnG : H.2.2.2.2.2.2.length ≤ 128 := HG.2.2.1
  have lnB : H.2.2.2.2.2.1.length ≤ 128 := HB.2.2.1
  have eG : V (hb + 182) 1 = nI H.2.2.2.2.2.2.length := HG.2.2.2.2.1
  have eB : V (hb + 180) 1 = nI H.2.2.2.2.2.1.length := HB.2.2.2.2.1
  refine fs_body rfl rfl (fun Ret hP => ?_)
  refine fs_iconst (pc2 := 1) rfl rfl rfl ?_
  refine fs_istore_n (pc2 := 2) rfl rfl rfl (Nat.le_of_ble_eq_true rfl) ?_
  exact e_firstBy_loop hH hid (hP _ _ _ _ ⟨rfl, rfl, rfl, rfl⟩) 4 0 [] (by omega) (Or.inl rfl) (fun j hj => by omega)
end READ
