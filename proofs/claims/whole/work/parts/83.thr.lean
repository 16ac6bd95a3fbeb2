/-! CreditLink's methods where they throw -/
theorem in_t {v a b : Int32} (h1 : ¬ v < a) (h2 : v ≤ b) : isInB v a b = true := decide_eq_true ⟨h1, h2⟩
/-- a method of CreditLink that throws E, the memory as it was -/
def fl_T (cy : Nat → ClassId) (z0 : Nat) (ext : Nat → Nat → List Value → ev_H → Nat → ev_P → Prop) (d m : Nat) (as : List Value) (sh : fl_S) (V : fl_V) (n : Nat) (E : String) : Prop :=
  ∀ (y : MethodName) (bs : ByteArray) (nl : Nat) (rt : Option FieldType) (oc na kd mc ms : Nat) (code : List ev_I), ev_ms[m]? = some ((y, bs, nl, rt, oc, na, kd, mc, ms), code) → oc = 6 ∧ (as.all (fun v => v.category == 1) && decide (as.length ≤ nl)) = true ∧
    ∀ (Post : ev_P) (PX : String → ev_H → Nat → Prop), (∀ n', z0 + n ≤ n' → PX E (fl_f cy z0 sh V) n') → ev_R cy (ev_M cy ext d) (fun g _ => ev_spT mc ms PX code g) 6 mc ms nl rt code Post (0, lv_args 0 as, [], fl_f cy z0 sh V, z0 + n, 0, 0)
section THR
variable {cy : Nat → ClassId} {z0 : Nat} {ext : Nat → Nat → List Value → ev_H → Nat → ev_P → Prop} {d : Nat} {sh sh' : fl_S} {V V' : fl_V} {n n' K a0 c : Nat} {E : Nat → Nat} {R : Nat → List Nat} {S : List Nat} {HH : Nat → Ho}

theorem fl_T_body {m : Nat} {as : List Value} {E9 : String} {y : MethodName} {bs : ByteArray} {nl na kd mc ms : Nat} {rt : Option FieldType} {code : List ev_I} (hm : ev_ms[m]? = some ((y, bs, nl, rt, 6, na, kd, mc, ms), code)) (hcat : (as.all (fun v => v.category == 1) && decide (as.length ≤ nl)) = true) (h : ∀ (Ret : ev_P) (PX : String → ev_H → Nat → Prop), (∀ n', z0 + n ≤ n' → PX E9 (fl_f cy z0 sh V) n') → fl_Q cy z0 (ev_M cy ext d) (fun g _ => ev_spT mc ms PX code g) 6 mc ms nl rt code Ret 0 (lv_args 0 as) [] sh V n 0 0) : fl_T cy z0 ext d m as sh V n E9 := by
  intro y' bs' nl' rt' oc' na' kd' mc' ms' code' hm'
  cases hm.symm.trans hm'
  exact ⟨rfl, hcat, h⟩
theorem fs_throw {call : Nat → List Value → ev_H → Nat → ev_P → Prop} {oc mc ms nl : Nat} {rt : Option FieldType} {code : List ev_I} {Ret : ev_P} {PX : String → ev_H → Nat → Prop} {L : List (Nat × Value)} {st : List Value} {c sl pc q0 len a k ic : Nat} {w : Int32} (E9 : String) (hat : ev_at code pc = some (q0, .new k, len, a, 99, w)) (h3 : ev_is code (pc + 3) .dup) (h4 : ev_is code (pc + 4) (.invokespecial ic)) (h7 : ev_is code (pc + 7) .athrow) (hm : (k, ic, E9) ∈ ev_tx) (hs : (st.map fun v => v.category).sum ≤ 8) (hc : c + 1 ≤ mc) (hl : sl + 6 ≤ ms) (hP : ∀ n', z0 + n ≤ n' → PX E9 (fl_f cy z0 sh V) n') : fl_Q cy z0 call (fun g _ => ev_spT mc ms PX code g) oc mc ms nl rt code Ret pc L st sh V n c sl := by
  refine fc_hook hat ?_
  exact ⟨k, ic, E9, ⟨_, _, _, _, _, hat⟩, h3, h4, h7, hm, hs, hc, hl, hP⟩
set_option maxRecDepth 100000 in
set_option maxHeartbeats 4000000 in
theorem t_service {u s m p k : Int32} (hno : (isHostB u && isOfferB s m p k) = false) : fl_T cy z0 ext (d + 1) m_X6_service [.ref (z0 + c), .int u, .int s, .int m, .int p, .int k] sh V n ev_IAE := by
  refine fl_T_body rfl rfl (fun Ret PX hP => ?_)
  refine fs_iload_n (pc2 := 1) rfl rfl rfl rfl ?_
  refine fs_calls (pc2 := 4) rfl rfl rfl rfl rfl rfl ⟨rfl, rfl⟩ (Nat.le_of_ble_eq_true rfl) (Nat.le_of_ble_eq_true rfl) (Nat.le_of_ble_eq_true rfl) (e_isHost (u := u)) (fun v9 sh9 V9 n9 hp9 => ?_)
  obtain ⟨ea9, eb9, ec9, hv9⟩ := hp9
  cases ea9
  obtain rfl := eb9.symm
  obtain rfl := ec9.symm
  cases hv9
  refine fs_if_eq (pc2 := 7) rfl rfl rfl (fun h4 => ?_) (fun h4 => ?_)
  · exact fs_throw ev_IAE rfl ⟨_, _, _, _, _, rfl⟩ ⟨_, _, _, _, _, rfl⟩ ⟨_, _, _, _, _, rfl⟩ List.mem_cons_self (Nat.le_of_ble_eq_true rfl) (Nat.le_of_ble_eq_true rfl) (Nat.le_of_ble_eq_true rfl) hP
  · refine fs_iload_n (pc2 := 8) rfl rfl rfl rfl ?_
    refine fs_iload_n (pc2 := 9) rfl rfl rfl rfl ?_
    refine fs_iload (pc2 := 11) rfl rfl rfl rfl ?_
    refine fs_iload (pc2 := 13) rfl rfl rfl rfl ?_
    refine fs_calls (pc2 := 16) rfl rfl rfl rfl rfl rfl ⟨rfl, rfl⟩ (Nat.le_of_ble_eq_true rfl) (Nat.le_of_ble_eq_true rfl) (Nat.le_of_ble_eq_true rfl) (e_isOffer (s := s) (m := m) (p := p) (k := k)) (fun v9 sh9 V9 n9 hp9 => ?_)
    obtain ⟨ea9, eb9, ec9, hv9⟩ := hp9
    cases ea9
    obtain rfl := eb9.symm
    obtain rfl := ec9.symm
    cases hv9
    refine fs_if_ne (pc2 := 19) rfl rfl rfl (fun h16 => ?_) (fun h16 => ?_)
    · exact absurd hno (by rw [bI_t h4, bI_t h16]; decide)
    · exact fs_throw ev_IAE rfl ⟨_, _, _, _, _, rfl⟩ ⟨_, _, _, _, _, rfl⟩ ⟨_, _, _, _, _, rfl⟩ List.mem_cons_self (Nat.le_of_ble_eq_true rfl) (Nat.le_of_ble_eq_true rfl) (Nat.le_of_ble_eq_true rfl) hP
set_option maxRecDepth 100000 in
set_option maxHeartbeats 4000000 in
theorem t_connect {u s m p k : Int32} (hno : (isHostB u && isOfferB s m p k) = false) : fl_T cy z0 ext (d + 1) m_X6_connect [.ref (z0 + c), .int u, .int s, .int m, .int p, .int k] sh V n ev_IAE := by
  refine fl_T_body rfl rfl (fun Ret PX hP => ?_)
  refine fs_iload_n (pc2 := 1) rfl rfl rfl rfl ?_
  refine fs_calls (pc2 := 4) rfl rfl rfl rfl rfl rfl ⟨rfl, rfl⟩ (Nat.le_of_ble_eq_true rfl) (Nat.le_of_ble_eq_true rfl) (Nat.le_of_ble_eq_true rfl) (e_isHost (u := u)) (fun v9 sh9 V9 n9 hp9 => ?_)
  obtain ⟨ea9, eb9, ec9, hv9⟩ := hp9
  cases ea9
  obtain rfl := eb9.symm
  obtain rfl := ec9.symm
  cases hv9
  refine fs_if_eq (pc2 := 7) rfl rfl rfl (fun h4 => ?_) (fun h4 => ?_)
  · exact fs_throw ev_IAE rfl ⟨_, _, _, _, _, rfl⟩ ⟨_, _, _, _, _, rfl⟩ ⟨_, _, _, _, _, rfl⟩ List.mem_cons_self (Nat.le_of_ble_eq_true rfl) (Nat.le_of_ble_eq_true rfl) (Nat.le_of_ble_eq_true rfl) hP
  · refine fs_iload_n (pc2 := 8) rfl rfl rfl rfl ?_
    refine fs_iload_n (pc2 := 9) rfl rfl rfl rfl ?_
    refine fs_iload (pc2 := 11) rfl rfl rfl rfl ?_
    refine fs_iload (pc2 := 13) rfl rfl rfl rfl ?_
    refine fs_calls (pc2 := 16) rfl rfl rfl rfl rfl rfl ⟨rfl, rfl⟩ (Nat.le_of_ble_eq_true rfl) (Nat.le_of_ble_eq_true rfl) (Nat.le_of_ble_eq_true rfl) (e_isOffer (s := s) (m := m) (p := p) (k := k)) (fun v9 sh9 V9 n9 hp9 => ?_)
    obtain ⟨ea9, eb9, ec9, hv9⟩ := hp9
    cases ea9
    obtain rfl := eb9.symm
    obtain rfl := ec9.symm
    cases hv9
    refine fs_if_ne (pc2 := 19) rfl rfl rfl (fun h16 => ?_) (fun h16 => ?_)
    · exact absurd hno (by rw [bI_t h4, bI_t h16]; decide)
    · exact fs_throw ev_IAE rfl ⟨_, _, _, _, _, rfl⟩ ⟨_, _, _, _, _, rfl⟩ ⟨_, _, _, _, _, rfl⟩ List.mem_cons_self (Nat.le_of_ble_eq_true rfl) (Nat.le_of_ble_eq_true rfl) (Nat.le_of_ble_eq_true rfl) hP
set_option maxRecDepth 100000 in
set_option maxHeartbeats 4000000 in
theorem t_feed1 {u ca cb cc cd : Int32} (hno : (isInB u 0 16) = false) : fl_T cy z0 ext (d + 1) m_X6_feed [.ref (z0 + c), .int u, .int ca, .int cb, .int cc, .int cd] sh V n ev_IAE := by
  refine fl_T_body rfl rfl (fun Ret PX hP => ?_)
  refine fs_iload_n (pc2 := 1) rfl rfl rfl rfl ?_
  refine fs_if_lt (pc2 := 4) rfl rfl rfl (fun h1 => ?_) (fun h1 => ?_)
  · exact fs_throw ev_IAE rfl ⟨_, _, _, _, _, rfl⟩ ⟨_, _, _, _, _, rfl⟩ ⟨_, _, _, _, _, rfl⟩ List.mem_cons_self (Nat.le_of_ble_eq_true rfl) (Nat.le_of_ble_eq_true rfl) (Nat.le_of_ble_eq_true rfl) hP
  · refine fs_iload_n (pc2 := 5) rfl rfl rfl rfl ?_
    refine fs_bipush (pc2 := 7) rfl rfl rfl ?_
    refine fs_icmp_le (pc2 := 10) rfl rfl rfl (fun h7 => ?_) (fun h7 => ?_)
    · exact absurd hno (by rw [in_t h1 h7]; decide)
    · exact fs_throw ev_IAE rfl ⟨_, _, _, _, _, rfl⟩ ⟨_, _, _, _, _, rfl⟩ ⟨_, _, _, _, _, rfl⟩ List.mem_cons_self (Nat.le_of_ble_eq_true rfl) (Nat.le_of_ble_eq_true rfl) (Nat.le_of_ble_eq_true rfl) hP
set_option maxRecDepth 100000 in
set_option maxHeartbeats 4000000 in
theorem t_send1 {u w : Int32} (hno : (isHostB u && isChB w) = false) : fl_T cy z0 ext (d + 1) m_X6_send [.ref (z0 + c), .int u, .int w] sh V n ev_IAE := by
  refine fl_T_body rfl rfl (fun Ret PX hP => ?_)
  refine fs_iload_n (pc2 := 1) rfl rfl rfl rfl ?_
  refine fs_calls (pc2 := 4) rfl rfl rfl rfl rfl rfl ⟨rfl, rfl⟩ (Nat.le_of_ble_eq_true rfl) (Nat.le_of_ble_eq_true rfl) (Nat.le_of_ble_eq_true rfl) (e_isHost (u := u)) (fun v9 sh9 V9 n9 hp9 => ?_)
  obtain ⟨ea9, eb9, ec9, hv9⟩ := hp9
  cases ea9
  obtain rfl := eb9.symm
  obtain rfl := ec9.symm
  cases hv9
  refine fs_if_eq (pc2 := 7) rfl rfl rfl (fun h4 => ?_) (fun h4 => ?_)
  · exact fs_throw ev_IAE rfl ⟨_, _, _, _, _, rfl⟩ ⟨_, _, _, _, _, rfl⟩ ⟨_, _, _, _, _, rfl⟩ List.mem_cons_self (Nat.le_of_ble_eq_true rfl) (Nat.le_of_ble_eq_true rfl) (Nat.le_of_ble_eq_true rfl) hP
  · refine fs_iload_n (pc2 := 8) rfl rfl rfl rfl ?_
    refine fs_calls (pc2 := 11) rfl rfl rfl rfl rfl rfl ⟨rfl, rfl⟩ (Nat.le_of_ble_eq_true rfl) (Nat.le_of_ble_eq_true rfl) (Nat.le_of_ble_eq_true rfl) (e_isChannel (u := w)) (fun v9 sh9 V9 n9 hp9 => ?_)
    obtain ⟨ea9, eb9, ec9, hv9⟩ := hp9
    cases ea9
    obtain rfl := eb9.symm
    obtain rfl := ec9.symm
    cases hv9
    refine fs_if_ne (pc2 := 14) rfl rfl rfl (fun h11 => ?_) (fun h11 => ?_)
    · exact absurd hno (by rw [bI_t h4, bI_t h11]; decide)
    · exact fs_throw ev_IAE rfl ⟨_, _, _, _, _, rfl⟩ ⟨_, _, _, _, _, rfl⟩ ⟨_, _, _, _, _, rfl⟩ List.mem_cons_self (Nat.le_of_ble_eq_true rfl) (Nat.le_of_ble_eq_true rfl) (Nat.le_of_ble_eq_true rfl) hP
set_option maxRecDepth 100000 in
set_option maxHeartbeats 4000000 in
theorem t_leave1 {u w : Int32} (hno : (isHostB u && isChB w) = false) : fl_T cy z0 ext (d + 1) m_X6_leave [.ref (z0 + c), .int u, .int w] sh V n ev_IAE := by
  refine fl_T_body rfl rfl (fun Ret PX hP => ?_)
  refine fs_iload_n (pc2 := 1) rfl rfl rfl rfl ?_
  refine fs_calls (pc2 := 4) rfl rfl rfl rfl rfl rfl ⟨rfl, rfl⟩ (Nat.le_of_ble_eq_true rfl) (Nat.le_of_ble_eq_true rfl) (Nat.le_of_ble_eq_true rfl) (e_isHost (u := u)) (fun v9 sh9 V9 n9 hp9 => ?_)
  obtain ⟨ea9, eb9, ec9, hv9⟩ := hp9
  cases ea9
  obtain rfl := eb9.symm
  obtain rfl := ec9.symm
  cases hv9
  refine fs_if_eq (pc2 := 7) rfl rfl rfl (fun h4 => ?_) (fun h4 => ?_)
  · exact fs_throw ev_IAE rfl ⟨_, _, _, _, _, rfl⟩ ⟨_, _, _, _, _, rfl⟩ ⟨_, _, _, _, _, rfl⟩ List.mem_cons_self (Nat.le_of_ble_eq_true rfl) (Nat.le_of_ble_eq_true rfl) (Nat.le_of_ble_eq_true rfl) hP
  · refine fs_iload_n (pc2 := 8) rfl rfl rfl rfl ?_
    refine fs_calls (pc2 := 11) rfl rfl rfl rfl rfl rfl ⟨rfl, rfl⟩ (Nat.le_of_ble_eq_true rfl) (Nat.le_of_ble_eq_true rfl) (Nat.le_of_ble_eq_true rfl) (e_isChannel (u := w)) (fun v9 sh9 V9 n9 hp9 => ?_)
    obtain ⟨ea9, eb9, ec9, hv9⟩ := hp9
    cases ea9
    obtain rfl := eb9.symm
    obtain rfl := ec9.symm
    cases hv9
    refine fs_if_ne (pc2 := 14) rfl rfl rfl (fun h11 => ?_) (fun h11 => ?_)
    · exact absurd hno (by rw [bI_t h4, bI_t h11]; decide)
    · exact fs_throw ev_IAE rfl ⟨_, _, _, _, _, rfl⟩ ⟨_, _, _, _, _, rfl⟩ ⟨_, _, _, _, _, rfl⟩ List.mem_cons_self (Nat.le_of_ble_eq_true rfl) (Nat.le_of_ble_eq_true rfl) (Nat.le_of_ble_eq_true rfl) hP
set_option maxRecDepth 100000 in
set_option maxHeartbeats 4000000 in
theorem t_receive {u w : Int32} (hno : (isHostB u && isChB w) = false) : fl_T cy z0 ext (d + 1) m_X6_receive [.ref (z0 + c), .int u, .int w] sh V n ev_IAE := by
  refine fl_T_body rfl rfl (fun Ret PX hP => ?_)
  refine fs_iload_n (pc2 := 1) rfl rfl rfl rfl ?_
  refine fs_calls (pc2 := 4) rfl rfl rfl rfl rfl rfl ⟨rfl, rfl⟩ (Nat.le_of_ble_eq_true rfl) (Nat.le_of_ble_eq_true rfl) (Nat.le_of_ble_eq_true rfl) (e_isHost (u := u)) (fun v9 sh9 V9 n9 hp9 => ?_)
  obtain ⟨ea9, eb9, ec9, hv9⟩ := hp9
  cases ea9
  obtain rfl := eb9.symm
  obtain rfl := ec9.symm
  cases hv9
  refine fs_if_eq (pc2 := 7) rfl rfl rfl (fun h4 => ?_) (fun h4 => ?_)
  · exact fs_throw ev_IAE rfl ⟨_, _, _, _, _, rfl⟩ ⟨_, _, _, _, _, rfl⟩ ⟨_, _, _, _, _, rfl⟩ List.mem_cons_self (Nat.le_of_ble_eq_true rfl) (Nat.le_of_ble_eq_true rfl) (Nat.le_of_ble_eq_true rfl) hP
  · refine fs_iload_n (pc2 := 8) rfl rfl rfl rfl ?_
    refine fs_calls (pc2 := 11) rfl rfl rfl rfl rfl rfl ⟨rfl, rfl⟩ (Nat.le_of_ble_eq_true rfl) (Nat.le_of_ble_eq_true rfl) (Nat.le_of_ble_eq_true rfl) (e_isChannel (u := w)) (fun v9 sh9 V9 n9 hp9 => ?_)
    obtain ⟨ea9, eb9, ec9, hv9⟩ := hp9
    cases ea9
    obtain rfl := eb9.symm
    obtain rfl := ec9.symm
    cases hv9
    refine fs_if_ne (pc2 := 14) rfl rfl rfl (fun h11 => ?_) (fun h11 => ?_)
    · exact absurd hno (by rw [bI_t h4, bI_t h11]; decide)
    · exact fs_throw ev_IAE rfl ⟨_, _, _, _, _, rfl⟩ ⟨_, _, _, _, _, rfl⟩ ⟨_, _, _, _, _, rfl⟩ List.mem_cons_self (Nat.le_of_ble_eq_true rfl) (Nat.le_of_ble_eq_true rfl) (Nat.le_of_ble_eq_true rfl) hP
set_option maxRecDepth 100000 in
set_option maxHeartbeats 4000000 in
theorem t_grant1 {u w x : Int32} (hno : (isHostB u && isChB w && isInB x 1 1000) = false) : fl_T cy z0 ext (d + 1) m_X6_grant [.ref (z0 + c), .int u, .int w, .int x] sh V n ev_IAE := by
  refine fl_T_body rfl rfl (fun Ret PX hP => ?_)
  refine fs_iload_n (pc2 := 1) rfl rfl rfl rfl ?_
  refine fs_calls (pc2 := 4) rfl rfl rfl rfl rfl rfl ⟨rfl, rfl⟩ (Nat.le_of_ble_eq_true rfl) (Nat.le_of_ble_eq_true rfl) (Nat.le_of_ble_eq_true rfl) (e_isHost (u := u)) (fun v9 sh9 V9 n9 hp9 => ?_)
  obtain ⟨ea9, eb9, ec9, hv9⟩ := hp9
  cases ea9
  obtain rfl := eb9.symm
  obtain rfl := ec9.symm
  cases hv9
  refine fs_if_eq (pc2 := 7) rfl rfl rfl (fun h4 => ?_) (fun h4 => ?_)
  · exact fs_throw ev_IAE rfl ⟨_, _, _, _, _, rfl⟩ ⟨_, _, _, _, _, rfl⟩ ⟨_, _, _, _, _, rfl⟩ List.mem_cons_self (Nat.le_of_ble_eq_true rfl) (Nat.le_of_ble_eq_true rfl) (Nat.le_of_ble_eq_true rfl) hP
  · refine fs_iload_n (pc2 := 8) rfl rfl rfl rfl ?_
    refine fs_calls (pc2 := 11) rfl rfl rfl rfl rfl rfl ⟨rfl, rfl⟩ (Nat.le_of_ble_eq_true rfl) (Nat.le_of_ble_eq_true rfl) (Nat.le_of_ble_eq_true rfl) (e_isChannel (u := w)) (fun v9 sh9 V9 n9 hp9 => ?_)
    obtain ⟨ea9, eb9, ec9, hv9⟩ := hp9
    cases ea9
    obtain rfl := eb9.symm
    obtain rfl := ec9.symm
    cases hv9
    refine fs_if_eq (pc2 := 14) rfl rfl rfl (fun h11 => ?_) (fun h11 => ?_)
    · exact fs_throw ev_IAE rfl ⟨_, _, _, _, _, rfl⟩ ⟨_, _, _, _, _, rfl⟩ ⟨_, _, _, _, _, rfl⟩ List.mem_cons_self (Nat.le_of_ble_eq_true rfl) (Nat.le_of_ble_eq_true rfl) (Nat.le_of_ble_eq_true rfl) hP
    · refine fs_iload_n (pc2 := 15) rfl rfl rfl rfl ?_
      refine fs_iconst (pc2 := 16) rfl rfl rfl ?_
      refine fs_icmp_lt (pc2 := 19) rfl rfl rfl (fun h16 => ?_) (fun h16 => ?_)
      · exact fs_throw ev_IAE rfl ⟨_, _, _, _, _, rfl⟩ ⟨_, _, _, _, _, rfl⟩ ⟨_, _, _, _, _, rfl⟩ List.mem_cons_self (Nat.le_of_ble_eq_true rfl) (Nat.le_of_ble_eq_true rfl) (Nat.le_of_ble_eq_true rfl) hP
      · refine fs_iload_n (pc2 := 20) rfl rfl rfl rfl ?_
        refine fs_sipush (pc2 := 23) rfl rfl rfl ?_
        refine fs_icmp_le (pc2 := 26) rfl rfl rfl (fun h23 => ?_) (fun h23 => ?_)
        · exact absurd hno (by rw [bI_t h4, bI_t h11, in_t h16 h23]; decide)
        · exact fs_throw ev_IAE rfl ⟨_, _, _, _, _, rfl⟩ ⟨_, _, _, _, _, rfl⟩ ⟨_, _, _, _, _, rfl⟩ List.mem_cons_self (Nat.le_of_ble_eq_true rfl) (Nat.le_of_ble_eq_true rfl) (Nat.le_of_ble_eq_true rfl) hP
set_option maxRecDepth 100000 in
set_option maxHeartbeats 4000000 in
theorem t_take {u : Int32} (hno : (isHostB u) = false) : fl_T cy z0 ext (d + 1) m_X6_take [.ref (z0 + c), .int u] sh V n ev_IAE := by
  refine fl_T_body rfl rfl (fun Ret PX hP => ?_)
  refine fs_iload_n (pc2 := 1) rfl rfl rfl rfl ?_
  refine fs_calls (pc2 := 4) rfl rfl rfl rfl rfl rfl ⟨rfl, rfl⟩ (Nat.le_of_ble_eq_true rfl) (Nat.le_of_ble_eq_true rfl) (Nat.le_of_ble_eq_true rfl) (e_isHost (u := u)) (fun v9 sh9 V9 n9 hp9 => ?_)
  obtain ⟨ea9, eb9, ec9, hv9⟩ := hp9
  cases ea9
  obtain rfl := eb9.symm
  obtain rfl := ec9.symm
  cases hv9
  refine fs_if_ne (pc2 := 7) rfl rfl rfl (fun h4 => ?_) (fun h4 => ?_)
  · exact absurd hno (by rw [bI_t h4]; decide)
  · exact fs_throw ev_IAE rfl ⟨_, _, _, _, _, rfl⟩ ⟨_, _, _, _, _, rfl⟩ ⟨_, _, _, _, _, rfl⟩ List.mem_cons_self (Nat.le_of_ble_eq_true rfl) (Nat.le_of_ble_eq_true rfl) (Nat.le_of_ble_eq_true rfl) hP
set_option maxRecDepth 100000 in
set_option maxHeartbeats 4000000 in
theorem t_lose {u : Int32} (hno : (isHostB u) = false) : fl_T cy z0 ext (d + 1) m_X6_lose [.ref (z0 + c), .int u] sh V n ev_IAE := by
  refine fl_T_body rfl rfl (fun Ret PX hP => ?_)
  refine fs_iload_n (pc2 := 1) rfl rfl rfl rfl ?_
  refine fs_calls (pc2 := 4) rfl rfl rfl rfl rfl rfl ⟨rfl, rfl⟩ (Nat.le_of_ble_eq_true rfl) (Nat.le_of_ble_eq_true rfl) (Nat.le_of_ble_eq_true rfl) (e_isHost (u := u)) (fun v9 sh9 V9 n9 hp9 => ?_)
  obtain ⟨ea9, eb9, ec9, hv9⟩ := hp9
  cases ea9
  obtain rfl := eb9.symm
  obtain rfl := ec9.symm
  cases hv9
  refine fs_if_ne (pc2 := 7) rfl rfl rfl (fun h4 => ?_) (fun h4 => ?_)
  · exact absurd hno (by rw [bI_t h4]; decide)
  · exact fs_throw ev_IAE rfl ⟨_, _, _, _, _, rfl⟩ ⟨_, _, _, _, _, rfl⟩ ⟨_, _, _, _, _, rfl⟩ List.mem_cons_self (Nat.le_of_ble_eq_true rfl) (Nat.le_of_ble_eq_true rfl) (Nat.le_of_ble_eq_true rfl) hP
set_option maxRecDepth 100000 in
set_option maxHeartbeats 4000000 in
theorem t_inject {u w x : Int32} (hno : (isHostB u && isInB w 0 65535 && isInB x 0 100) = false) : fl_T cy z0 ext (d + 1) m_X6_inject [.ref (z0 + c), .int u, .int w, .int x] sh V n ev_IAE := by
  refine fl_T_body rfl rfl (fun Ret PX hP => ?_)
  refine fs_iload_n (pc2 := 1) rfl rfl rfl rfl ?_
  refine fs_calls (pc2 := 4) rfl rfl rfl rfl rfl rfl ⟨rfl, rfl⟩ (Nat.le_of_ble_eq_true rfl) (Nat.le_of_ble_eq_true rfl) (Nat.le_of_ble_eq_true rfl) (e_isHost (u := u)) (fun v9 sh9 V9 n9 hp9 => ?_)
  obtain ⟨ea9, eb9, ec9, hv9⟩ := hp9
  cases ea9
  obtain rfl := eb9.symm
  obtain rfl := ec9.symm
  cases hv9
  refine fs_if_eq (pc2 := 7) rfl rfl rfl (fun h4 => ?_) (fun h4 => ?_)
  · exact fs_throw ev_IAE rfl ⟨_, _, _, _, _, rfl⟩ ⟨_, _, _, _, _, rfl⟩ ⟨_, _, _, _, _, rfl⟩ List.mem_cons_self (Nat.le_of_ble_eq_true rfl) (Nat.le_of_ble_eq_true rfl) (Nat.le_of_ble_eq_true rfl) hP
  · refine fs_iload_n (pc2 := 8) rfl rfl rfl rfl ?_
    refine fs_if_lt (pc2 := 11) rfl rfl rfl (fun h8 => ?_) (fun h8 => ?_)
    · exact fs_throw ev_IAE rfl ⟨_, _, _, _, _, rfl⟩ ⟨_, _, _, _, _, rfl⟩ ⟨_, _, _, _, _, rfl⟩ List.mem_cons_self (Nat.le_of_ble_eq_true rfl) (Nat.le_of_ble_eq_true rfl) (Nat.le_of_ble_eq_true rfl) hP
    · refine fs_iload_n (pc2 := 12) rfl rfl rfl rfl ?_
      refine fs_ldc (pc2 := 14) rfl rfl rfl ?_
      refine fs_icmp_gt (pc2 := 17) rfl rfl rfl (fun h14 => ?_) (fun h14 => ?_)
      · exact fs_throw ev_IAE rfl ⟨_, _, _, _, _, rfl⟩ ⟨_, _, _, _, _, rfl⟩ ⟨_, _, _, _, _, rfl⟩ List.mem_cons_self (Nat.le_of_ble_eq_true rfl) (Nat.le_of_ble_eq_true rfl) (Nat.le_of_ble_eq_true rfl) hP
      · refine fs_iload_n (pc2 := 18) rfl rfl rfl rfl ?_
        refine fs_if_lt (pc2 := 21) rfl rfl rfl (fun h18 => ?_) (fun h18 => ?_)
        · exact fs_throw ev_IAE rfl ⟨_, _, _, _, _, rfl⟩ ⟨_, _, _, _, _, rfl⟩ ⟨_, _, _, _, _, rfl⟩ List.mem_cons_self (Nat.le_of_ble_eq_true rfl) (Nat.le_of_ble_eq_true rfl) (Nat.le_of_ble_eq_true rfl) hP
        · refine fs_iload_n (pc2 := 22) rfl rfl rfl rfl ?_
          refine fs_bipush (pc2 := 24) rfl rfl rfl ?_
          refine fs_icmp_le (pc2 := 27) rfl rfl rfl (fun h24 => ?_) (fun h24 => ?_)
          · exact absurd hno (by rw [bI_t h4, in_t h8 h14, in_t h18 h24]; decide)
          · exact fs_throw ev_IAE rfl ⟨_, _, _, _, _, rfl⟩ ⟨_, _, _, _, _, rfl⟩ ⟨_, _, _, _, _, rfl⟩ List.mem_cons_self (Nat.le_of_ble_eq_true rfl) (Nat.le_of_ble_eq_true rfl) (Nat.le_of_ble_eq_true rfl) hP
set_option maxRecDepth 100000 in
set_option maxHeartbeats 4000000 in
theorem t_channel {u w x : Int32} (hno : (isHostB u && isChB w && isInB x 0 7) = false) : fl_T cy z0 ext (d + 1) m_X6_channel [.ref (z0 + c), .int u, .int w, .int x] sh V n ev_IAE := by
  refine fl_T_body rfl rfl (fun Ret PX hP => ?_)
  refine fs_iload_n (pc2 := 1) rfl rfl rfl rfl ?_
  refine fs_calls (pc2 := 4) rfl rfl rfl rfl rfl rfl ⟨rfl, rfl⟩ (Nat.le_of_ble_eq_true rfl) (Nat.le_of_ble_eq_true rfl) (Nat.le_of_ble_eq_true rfl) (e_isHost (u := u)) (fun v9 sh9 V9 n9 hp9 => ?_)
  obtain ⟨ea9, eb9, ec9, hv9⟩ := hp9
  cases ea9
  obtain rfl := eb9.symm
  obtain rfl := ec9.symm
  cases hv9
  refine fs_if_eq (pc2 := 7) rfl rfl rfl (fun h4 => ?_) (fun h4 => ?_)
  · exact fs_throw ev_IAE rfl ⟨_, _, _, _, _, rfl⟩ ⟨_, _, _, _, _, rfl⟩ ⟨_, _, _, _, _, rfl⟩ List.mem_cons_self (Nat.le_of_ble_eq_true rfl) (Nat.le_of_ble_eq_true rfl) (Nat.le_of_ble_eq_true rfl) hP
  · refine fs_iload_n (pc2 := 8) rfl rfl rfl rfl ?_
    refine fs_calls (pc2 := 11) rfl rfl rfl rfl rfl rfl ⟨rfl, rfl⟩ (Nat.le_of_ble_eq_true rfl) (Nat.le_of_ble_eq_true rfl) (Nat.le_of_ble_eq_true rfl) (e_isChannel (u := w)) (fun v9 sh9 V9 n9 hp9 => ?_)
    obtain ⟨ea9, eb9, ec9, hv9⟩ := hp9
    cases ea9
    obtain rfl := eb9.symm
    obtain rfl := ec9.symm
    cases hv9
    refine fs_if_eq (pc2 := 14) rfl rfl rfl (fun h11 => ?_) (fun h11 => ?_)
    · exact fs_throw ev_IAE rfl ⟨_, _, _, _, _, rfl⟩ ⟨_, _, _, _, _, rfl⟩ ⟨_, _, _, _, _, rfl⟩ List.mem_cons_self (Nat.le_of_ble_eq_true rfl) (Nat.le_of_ble_eq_true rfl) (Nat.le_of_ble_eq_true rfl) hP
    · refine fs_iload_n (pc2 := 15) rfl rfl rfl rfl ?_
      refine fs_if_lt (pc2 := 18) rfl rfl rfl (fun h15 => ?_) (fun h15 => ?_)
      · exact fs_throw ev_IAE rfl ⟨_, _, _, _, _, rfl⟩ ⟨_, _, _, _, _, rfl⟩ ⟨_, _, _, _, _, rfl⟩ List.mem_cons_self (Nat.le_of_ble_eq_true rfl) (Nat.le_of_ble_eq_true rfl) (Nat.le_of_ble_eq_true rfl) hP
      · refine fs_iload_n (pc2 := 19) rfl rfl rfl rfl ?_
        refine fs_bipush (pc2 := 21) rfl rfl rfl ?_
        refine fs_icmp_le (pc2 := 24) rfl rfl rfl (fun h21 => ?_) (fun h21 => ?_)
        · exact absurd hno (by rw [bI_t h4, bI_t h11, in_t h15 h21]; decide)
        · exact fs_throw ev_IAE rfl ⟨_, _, _, _, _, rfl⟩ ⟨_, _, _, _, _, rfl⟩ ⟨_, _, _, _, _, rfl⟩ List.mem_cons_self (Nat.le_of_ble_eq_true rfl) (Nat.le_of_ble_eq_true rfl) (Nat.le_of_ble_eq_true rfl) hP
set_option maxRecDepth 100000 in
set_option maxHeartbeats 4000000 in
theorem t_count {u w : Int32} (hno : (isHostB u && isInB w 0 6) = false) : fl_T cy z0 ext (d + 1) m_X6_count [.ref (z0 + c), .int u, .int w] sh V n ev_IAE := by
  refine fl_T_body rfl rfl (fun Ret PX hP => ?_)
  refine fs_iload_n (pc2 := 1) rfl rfl rfl rfl ?_
  refine fs_calls (pc2 := 4) rfl rfl rfl rfl rfl rfl ⟨rfl, rfl⟩ (Nat.le_of_ble_eq_true rfl) (Nat.le_of_ble_eq_true rfl) (Nat.le_of_ble_eq_true rfl) (e_isHost (u := u)) (fun v9 sh9 V9 n9 hp9 => ?_)
  obtain ⟨ea9, eb9, ec9, hv9⟩ := hp9
  cases ea9
  obtain rfl := eb9.symm
  obtain rfl := ec9.symm
  cases hv9
  refine fs_if_eq (pc2 := 7) rfl rfl rfl (fun h4 => ?_) (fun h4 => ?_)
  · exact fs_throw ev_IAE rfl ⟨_, _, _, _, _, rfl⟩ ⟨_, _, _, _, _, rfl⟩ ⟨_, _, _, _, _, rfl⟩ List.mem_cons_self (Nat.le_of_ble_eq_true rfl) (Nat.le_of_ble_eq_true rfl) (Nat.le_of_ble_eq_true rfl) hP
  · refine fs_iload_n (pc2 := 8) rfl rfl rfl rfl ?_
    refine fs_if_lt (pc2 := 11) rfl rfl rfl (fun h8 => ?_) (fun h8 => ?_)
    · exact fs_throw ev_IAE rfl ⟨_, _, _, _, _, rfl⟩ ⟨_, _, _, _, _, rfl⟩ ⟨_, _, _, _, _, rfl⟩ List.mem_cons_self (Nat.le_of_ble_eq_true rfl) (Nat.le_of_ble_eq_true rfl) (Nat.le_of_ble_eq_true rfl) hP
    · refine fs_iload_n (pc2 := 12) rfl rfl rfl rfl ?_
      refine fs_bipush (pc2 := 14) rfl rfl rfl ?_
      refine fs_icmp_le (pc2 := 17) rfl rfl rfl (fun h14 => ?_) (fun h14 => ?_)
      · exact absurd hno (by rw [bI_t h4, in_t h8 h14]; decide)
      · exact fs_throw ev_IAE rfl ⟨_, _, _, _, _, rfl⟩ ⟨_, _, _, _, _, rfl⟩ ⟨_, _, _, _, _, rfl⟩ List.mem_cons_self (Nat.le_of_ble_eq_true rfl) (Nat.le_of_ble_eq_true rfl) (Nat.le_of_ble_eq_true rfl) hP
set_option maxRecDepth 100000 in
set_option maxHeartbeats 4000000 in
theorem t_send2 (hL : CL sh V n K a0 c E R S HH) {i : Nat} (hi : i < 2) {k : Nat} (hk : k < 4) (hst : ((HH i).2.1 k).1 1 ≠ 2) : fl_T cy z0 ext (d + 1) m_X6_send [.ref (z0 + c), .int (nI i), .int (nI (64 + k))] sh V n ev_ISE := by
  obtain ⟨u1, ⟨gu, u2, u3⟩, u4, u5, ⟨ixs, u6⟩, u7, u8, u9⟩ := id hL
  unfold isCL at u1
  obtain ⟨so1, so2⟩ := id u5.1
  obtain ⟨io1, io2⟩ := id u6.1
  have lS : S.length ≤ 120 := u5.2.2.1
  have eS : V (c + 370) 1 = nI S.length := u5.2.2.2.2.1
  have hHo : isHostB (nI i) = true := by rcases i with _ | _ | i <;> first | rfl | omega
  have hKo : isChB (nI (64 + k)) = true := by rw [isChB_nI (by omega)]; exact decide_eq_true (by omega)
  have hi1 : vp_in (nI i) 2 := vp_in_nI hi (by decide)
  have hi2 : gu (nI i).toNatClampNeg = some (c + 2 + 184 * i) := by rw [nI_clamp (by omega)]; exact u3 i hi
  have hH := u4 i hi
  obtain ⟨hb, hhb⟩ : ∃ hb, hb = c + 2 + 184 * i := ⟨_, rfl⟩
  rw [← hhb] at hH hi2
  obtain ⟨⟨f1, ⟨gc, f2, f3⟩, f4, f5, f6⟩, HC, HS, ⟨wh, HW⟩, HQ, HB, HG, HI⟩ := id hH
  unfold isHo at f1
  have ki : nI (64 + k) - 64 = nI k := by rw [show (64 : Int32) = nI 64 from rfl, pk_sub (by omega)]; congr 1; omega
  have ki1 : vp_in (nI (64 + k) - 64) 4 := by rw [ki]; exact vp_in_nI hk (by decide)
  have ki2 : gc (nI (64 + k) - 64).toNatClampNeg = some (hb + 2 + 19 * k) := by rw [ki, nI_clamp (by omega)]; exact f3 k hk
  have C0 := (HC k hk).1
  have n0 := (HC k hk).2
  have s0 := C0.1
  unfold isChan at s0
  have e1 : ¬ V (hb + 2 + 19 * k) 1 = 2 := by
    rw [(C0.i 1 (by omega)).1]
    intro z
    have b1 := C0.2.1 1
    exact hst (c_eq (b := 2) z rfl rfl (by omega) (by decide))
  refine fl_T_body rfl rfl (fun Ret PX hP => ?_)
  refine fs_iload_n (pc2 := 1) rfl rfl rfl rfl ?_
  refine fs_calls (pc2 := 4) rfl rfl rfl rfl rfl rfl ⟨rfl, rfl⟩ (Nat.le_of_ble_eq_true rfl) (Nat.le_of_ble_eq_true rfl) (Nat.le_of_ble_eq_true rfl) (e_isHost (u := nI i)) (fun v9 sh9 V9 n9 hp9 => ?_)
  obtain ⟨ea9, eb9, ec9, hv9⟩ := hp9
  cases ea9
  obtain rfl := eb9.symm
  obtain rfl := ec9.symm
  cases hv9
  rw [hHo]
  refine fs_if_eq (pc2 := 7) rfl rfl rfl (fun h4 => ?_) (fun h4 => ?_)
  · exact absurd h4 (by decide)
  · refine fs_iload_n (pc2 := 8) rfl rfl rfl rfl ?_
    refine fs_calls (pc2 := 11) rfl rfl rfl rfl rfl rfl ⟨rfl, rfl⟩ (Nat.le_of_ble_eq_true rfl) (Nat.le_of_ble_eq_true rfl) (Nat.le_of_ble_eq_true rfl) (e_isChannel (u := nI (64 + k))) (fun v9 sh9 V9 n9 hp9 => ?_)
    obtain ⟨ea9, eb9, ec9, hv9⟩ := hp9
    cases ea9
    obtain rfl := eb9.symm
    obtain rfl := ec9.symm
    cases hv9
    rw [hKo]
    refine fs_if_ne (pc2 := 14) rfl rfl rfl (fun h11 => ?_) (fun h11 => ?_)
    · refine fs_aload_n (pc2 := 23) rfl rfl rfl rfl ?_
      refine fs_getr (pc2 := 26) rfl rfl rfl (by assumption) rfl ?_
      refine fs_iload_n (pc2 := 27) rfl rfl rfl rfl ?_
      refine fs_aald (pc2 := 28) rfl rfl rfl (by assumption) hi1 hi2 ?_
      refine fs_getr (pc2 := 31) rfl rfl rfl (by assumption) rfl ?_
      refine fs_iload_n (pc2 := 32) rfl rfl rfl rfl ?_
      refine fs_bipush (pc2 := 34) rfl rfl rfl ?_
      refine fs_isub (pc2 := 35) rfl rfl rfl ?_
      refine fs_aald (pc2 := 36) rfl rfl rfl (by assumption) ki1 ki2 ?_
      refine fs_astore_n (pc2 := 37) rfl rfl rfl (Nat.le_of_ble_eq_true rfl) ?_
      refine fs_aload_n (pc2 := 38) rfl rfl rfl rfl ?_
      refine fs_geti (pc2 := 41) rfl rfl rfl (by assumption) rfl ?_
      refine fs_iconst (pc2 := 42) rfl rfl rfl ?_
      refine fs_icmp_eq (pc2 := 45) rfl rfl rfl (fun h42 => ?_) (fun h42 => ?_)
      · exact absurd h42 e1
      · exact fs_throw ev_ISE rfl ⟨_, _, _, _, _, rfl⟩ ⟨_, _, _, _, _, rfl⟩ ⟨_, _, _, _, _, rfl⟩ (List.mem_cons_of_mem _ List.mem_cons_self) (Nat.le_of_ble_eq_true rfl) (Nat.le_of_ble_eq_true rfl) (Nat.le_of_ble_eq_true rfl) hP
    · exact absurd h11 (by decide)
set_option maxRecDepth 100000 in
set_option maxHeartbeats 4000000 in
theorem t_leave2 (hL : CL sh V n K a0 c E R S HH) {i : Nat} (hi : i < 2) {k : Nat} (hk : k < 4) (hst : ((HH i).2.1 k).1 1 ≠ 2) : fl_T cy z0 ext (d + 1) m_X6_leave [.ref (z0 + c), .int (nI i), .int (nI (64 + k))] sh V n ev_ISE := by
  obtain ⟨u1, ⟨gu, u2, u3⟩, u4, u5, ⟨ixs, u6⟩, u7, u8, u9⟩ := id hL
  unfold isCL at u1
  obtain ⟨so1, so2⟩ := id u5.1
  obtain ⟨io1, io2⟩ := id u6.1
  have lS : S.length ≤ 120 := u5.2.2.1
  have eS : V (c + 370) 1 = nI S.length := u5.2.2.2.2.1
  have hHo : isHostB (nI i) = true := by rcases i with _ | _ | i <;> first | rfl | omega
  have hKo : isChB (nI (64 + k)) = true := by rw [isChB_nI (by omega)]; exact decide_eq_true (by omega)
  have hi1 : vp_in (nI i) 2 := vp_in_nI hi (by decide)
  have hi2 : gu (nI i).toNatClampNeg = some (c + 2 + 184 * i) := by rw [nI_clamp (by omega)]; exact u3 i hi
  have hH := u4 i hi
  obtain ⟨hb, hhb⟩ : ∃ hb, hb = c + 2 + 184 * i := ⟨_, rfl⟩
  rw [← hhb] at hH hi2
  obtain ⟨⟨f1, ⟨gc, f2, f3⟩, f4, f5, f6⟩, HC, HS, ⟨wh, HW⟩, HQ, HB, HG, HI⟩ := id hH
  unfold isHo at f1
  have ki : nI (64 + k) - 64 = nI k := by rw [show (64 : Int32) = nI 64 from rfl, pk_sub (by omega)]; congr 1; omega
  have ki1 : vp_in (nI (64 + k) - 64) 4 := by rw [ki]; exact vp_in_nI hk (by decide)
  have ki2 : gc (nI (64 + k) - 64).toNatClampNeg = some (hb + 2 + 19 * k) := by rw [ki, nI_clamp (by omega)]; exact f3 k hk
  have C0 := (HC k hk).1
  have n0 := (HC k hk).2
  have s0 := C0.1
  unfold isChan at s0
  have e1 : ¬ V (hb + 2 + 19 * k) 1 = 2 := by
    rw [(C0.i 1 (by omega)).1]
    intro z
    have b1 := C0.2.1 1
    exact hst (c_eq (b := 2) z rfl rfl (by omega) (by decide))
  refine fl_T_body rfl rfl (fun Ret PX hP => ?_)
  refine fs_iload_n (pc2 := 1) rfl rfl rfl rfl ?_
  refine fs_calls (pc2 := 4) rfl rfl rfl rfl rfl rfl ⟨rfl, rfl⟩ (Nat.le_of_ble_eq_true rfl) (Nat.le_of_ble_eq_true rfl) (Nat.le_of_ble_eq_true rfl) (e_isHost (u := nI i)) (fun v9 sh9 V9 n9 hp9 => ?_)
  obtain ⟨ea9, eb9, ec9, hv9⟩ := hp9
  cases ea9
  obtain rfl := eb9.symm
  obtain rfl := ec9.symm
  cases hv9
  rw [hHo]
  refine fs_if_eq (pc2 := 7) rfl rfl rfl (fun h4 => ?_) (fun h4 => ?_)
  · exact absurd h4 (by decide)
  · refine fs_iload_n (pc2 := 8) rfl rfl rfl rfl ?_
    refine fs_calls (pc2 := 11) rfl rfl rfl rfl rfl rfl ⟨rfl, rfl⟩ (Nat.le_of_ble_eq_true rfl) (Nat.le_of_ble_eq_true rfl) (Nat.le_of_ble_eq_true rfl) (e_isChannel (u := nI (64 + k))) (fun v9 sh9 V9 n9 hp9 => ?_)
    obtain ⟨ea9, eb9, ec9, hv9⟩ := hp9
    cases ea9
    obtain rfl := eb9.symm
    obtain rfl := ec9.symm
    cases hv9
    rw [hKo]
    refine fs_if_ne (pc2 := 14) rfl rfl rfl (fun h11 => ?_) (fun h11 => ?_)
    · refine fs_aload_n (pc2 := 23) rfl rfl rfl rfl ?_
      refine fs_getr (pc2 := 26) rfl rfl rfl (by assumption) rfl ?_
      refine fs_iload_n (pc2 := 27) rfl rfl rfl rfl ?_
      refine fs_aald (pc2 := 28) rfl rfl rfl (by assumption) hi1 hi2 ?_
      refine fs_getr (pc2 := 31) rfl rfl rfl (by assumption) rfl ?_
      refine fs_iload_n (pc2 := 32) rfl rfl rfl rfl ?_
      refine fs_bipush (pc2 := 34) rfl rfl rfl ?_
      refine fs_isub (pc2 := 35) rfl rfl rfl ?_
      refine fs_aald (pc2 := 36) rfl rfl rfl (by assumption) ki1 ki2 ?_
      refine fs_astore_n (pc2 := 37) rfl rfl rfl (Nat.le_of_ble_eq_true rfl) ?_
      refine fs_aload_n (pc2 := 38) rfl rfl rfl rfl ?_
      refine fs_geti (pc2 := 41) rfl rfl rfl (by assumption) rfl ?_
      refine fs_iconst (pc2 := 42) rfl rfl rfl ?_
      refine fs_icmp_eq (pc2 := 45) rfl rfl rfl (fun h42 => ?_) (fun h42 => ?_)
      · exact absurd h42 e1
      · exact fs_throw ev_ISE rfl ⟨_, _, _, _, _, rfl⟩ ⟨_, _, _, _, _, rfl⟩ ⟨_, _, _, _, _, rfl⟩ (List.mem_cons_of_mem _ List.mem_cons_self) (Nat.le_of_ble_eq_true rfl) (Nat.le_of_ble_eq_true rfl) (Nat.le_of_ble_eq_true rfl) hP
    · exact absurd h11 (by decide)
set_option maxRecDepth 100000 in
set_option maxHeartbeats 4000000 in
theorem t_grant2 (hL : CL sh V n K a0 c E R S HH) {i : Nat} (hi : i < 2) {k : Nat} (hk : k < 4) (hst : ((HH i).2.1 k).1 1 ≠ 2) {x : Int32} (hx1 : ¬ x < 1) (hx2 : x ≤ 1000) : fl_T cy z0 ext (d + 1) m_X6_grant [.ref (z0 + c), .int (nI i), .int (nI (64 + k)), .int x] sh V n ev_ISE := by
  obtain ⟨u1, ⟨gu, u2, u3⟩, u4, u5, ⟨ixs, u6⟩, u7, u8, u9⟩ := id hL
  unfold isCL at u1
  obtain ⟨so1, so2⟩ := id u5.1
  obtain ⟨io1, io2⟩ := id u6.1
  have lS : S.length ≤ 120 := u5.2.2.1
  have eS : V (c + 370) 1 = nI S.length := u5.2.2.2.2.1
  have hHo : isHostB (nI i) = true := by rcases i with _ | _ | i <;> first | rfl | omega
  have hKo : isChB (nI (64 + k)) = true := by rw [isChB_nI (by omega)]; exact decide_eq_true (by omega)
  have hi1 : vp_in (nI i) 2 := vp_in_nI hi (by decide)
  have hi2 : gu (nI i).toNatClampNeg = some (c + 2 + 184 * i) := by rw [nI_clamp (by omega)]; exact u3 i hi
  have hH := u4 i hi
  obtain ⟨hb, hhb⟩ : ∃ hb, hb = c + 2 + 184 * i := ⟨_, rfl⟩
  rw [← hhb] at hH hi2
  obtain ⟨⟨f1, ⟨gc, f2, f3⟩, f4, f5, f6⟩, HC, HS, ⟨wh, HW⟩, HQ, HB, HG, HI⟩ := id hH
  unfold isHo at f1
  have ki : nI (64 + k) - 64 = nI k := by rw [show (64 : Int32) = nI 64 from rfl, pk_sub (by omega)]; congr 1; omega
  have ki1 : vp_in (nI (64 + k) - 64) 4 := by rw [ki]; exact vp_in_nI hk (by decide)
  have ki2 : gc (nI (64 + k) - 64).toNatClampNeg = some (hb + 2 + 19 * k) := by rw [ki, nI_clamp (by omega)]; exact f3 k hk
  have C0 := (HC k hk).1
  have n0 := (HC k hk).2
  have s0 := C0.1
  unfold isChan at s0
  have e1 : ¬ V (hb + 2 + 19 * k) 1 = 2 := by
    rw [(C0.i 1 (by omega)).1]
    intro z
    have b1 := C0.2.1 1
    exact hst (c_eq (b := 2) z rfl rfl (by omega) (by decide))
  refine fl_T_body rfl rfl (fun Ret PX hP => ?_)
  refine fs_iload_n (pc2 := 1) rfl rfl rfl rfl ?_
  refine fs_calls (pc2 := 4) rfl rfl rfl rfl rfl rfl ⟨rfl, rfl⟩ (Nat.le_of_ble_eq_true rfl) (Nat.le_of_ble_eq_true rfl) (Nat.le_of_ble_eq_true rfl) (e_isHost (u := nI i)) (fun v9 sh9 V9 n9 hp9 => ?_)
  obtain ⟨ea9, eb9, ec9, hv9⟩ := hp9
  cases ea9
  obtain rfl := eb9.symm
  obtain rfl := ec9.symm
  cases hv9
  rw [hHo]
  refine fs_if_eq (pc2 := 7) rfl rfl rfl (fun h4 => ?_) (fun h4 => ?_)
  · exact absurd h4 (by decide)
  · refine fs_iload_n (pc2 := 8) rfl rfl rfl rfl ?_
    refine fs_calls (pc2 := 11) rfl rfl rfl rfl rfl rfl ⟨rfl, rfl⟩ (Nat.le_of_ble_eq_true rfl) (Nat.le_of_ble_eq_true rfl) (Nat.le_of_ble_eq_true rfl) (e_isChannel (u := nI (64 + k))) (fun v9 sh9 V9 n9 hp9 => ?_)
    obtain ⟨ea9, eb9, ec9, hv9⟩ := hp9
    cases ea9
    obtain rfl := eb9.symm
    obtain rfl := ec9.symm
    cases hv9
    rw [hKo]
    refine fs_if_eq (pc2 := 14) rfl rfl rfl (fun h11 => ?_) (fun h11 => ?_)
    · exact absurd h11 (by decide)
    · refine fs_iload_n (pc2 := 15) rfl rfl rfl rfl ?_
      refine fs_iconst (pc2 := 16) rfl rfl rfl ?_
      refine fs_icmp_lt (pc2 := 19) rfl rfl rfl (fun h16 => ?_) (fun h16 => ?_)
      · exact absurd h16 hx1
      · refine fs_iload_n (pc2 := 20) rfl rfl rfl rfl ?_
        refine fs_sipush (pc2 := 23) rfl rfl rfl ?_
        refine fs_icmp_le (pc2 := 26) rfl rfl rfl (fun h23 => ?_) (fun h23 => ?_)
        · refine fs_aload_n (pc2 := 35) rfl rfl rfl rfl ?_
          refine fs_getr (pc2 := 38) rfl rfl rfl (by assumption) rfl ?_
          refine fs_iload_n (pc2 := 39) rfl rfl rfl rfl ?_
          refine fs_aald (pc2 := 40) rfl rfl rfl (by assumption) hi1 hi2 ?_
          refine fs_getr (pc2 := 43) rfl rfl rfl (by assumption) rfl ?_
          refine fs_iload_n (pc2 := 44) rfl rfl rfl rfl ?_
          refine fs_bipush (pc2 := 46) rfl rfl rfl ?_
          refine fs_isub (pc2 := 47) rfl rfl rfl ?_
          refine fs_aald (pc2 := 48) rfl rfl rfl (by assumption) ki1 ki2 ?_
          refine fs_astore (pc2 := 50) rfl rfl rfl (Nat.le_of_ble_eq_true rfl) ?_
          refine fs_aload (pc2 := 52) rfl rfl rfl rfl ?_
          refine fs_geti (pc2 := 55) rfl rfl rfl (by assumption) rfl ?_
          refine fs_iconst (pc2 := 56) rfl rfl rfl ?_
          refine fs_icmp_eq (pc2 := 59) rfl rfl rfl (fun h56 => ?_) (fun h56 => ?_)
          · exact absurd h56 e1
          · exact fs_throw ev_ISE rfl ⟨_, _, _, _, _, rfl⟩ ⟨_, _, _, _, _, rfl⟩ ⟨_, _, _, _, _, rfl⟩ (List.mem_cons_of_mem _ List.mem_cons_self) (Nat.le_of_ble_eq_true rfl) (Nat.le_of_ble_eq_true rfl) (Nat.le_of_ble_eq_true rfl) hP
        · exact absurd hx2 h23
set_option maxRecDepth 100000 in
set_option maxHeartbeats 4000000 in
theorem t_feed2 (hL : CL sh V n K a0 c E R S HH) {m : Nat} {ca cb cc cd : Int32} (hm : m ≤ 16) (hfit : 120 < S.length + m) : fl_T cy z0 ext (d + 1) m_X6_feed [.ref (z0 + c), .int (nI m), .int ca, .int cb, .int cc, .int cd] sh V n ev_ISE := by
  obtain ⟨u1, ⟨gu, u2, u3⟩, u4, u5, ⟨ixs, u6⟩, u7, u8, u9⟩ := id hL
  unfold isCL at u1
  obtain ⟨so1, so2⟩ := id u5.1
  obtain ⟨io1, io2⟩ := id u6.1
  have lS : S.length ≤ 120 := u5.2.2.1
  have eS : V (c + 370) 1 = nI S.length := u5.2.2.2.2.1
  have eA : V (c + 370) 1 + nI m = nI (S.length + m) := by rw [eS, nI_add]
  refine fl_T_body rfl rfl (fun Ret PX hP => ?_)
  refine fs_iload_n (pc2 := 1) rfl rfl rfl rfl ?_
  refine fs_if_lt (pc2 := 4) rfl rfl rfl (fun h1 => ?_) (fun h1 => ?_)
  · exact absurd h1 (nI_nlt (a := m) (b := 0) (by omega) (by omega))
  · refine fs_iload_n (pc2 := 5) rfl rfl rfl rfl ?_
    refine fs_bipush (pc2 := 7) rfl rfl rfl ?_
    refine fs_icmp_le (pc2 := 10) rfl rfl rfl (fun h7 => ?_) (fun h7 => ?_)
    · refine fs_aload_n (pc2 := 19) rfl rfl rfl rfl ?_
      refine fs_getr (pc2 := 22) rfl rfl rfl (by assumption) rfl ?_
      refine fs_geti (pc2 := 25) rfl rfl rfl (by assumption) rfl ?_
      refine fs_iload_n (pc2 := 26) rfl rfl rfl rfl ?_
      refine fs_iadd (pc2 := 27) rfl rfl rfl ?_
      refine fs_bipush (pc2 := 29) rfl rfl rfl ?_
      refine fs_icmp_le (pc2 := 32) rfl rfl rfl (fun h29 => ?_) (fun h29 => ?_)
      · have := c_le (b := 120) h29 eA rfl
        omega
      · exact fs_throw ev_ISE rfl ⟨_, _, _, _, _, rfl⟩ ⟨_, _, _, _, _, rfl⟩ ⟨_, _, _, _, _, rfl⟩ (List.mem_cons_of_mem _ List.mem_cons_self) (Nat.le_of_ble_eq_true rfl) (Nat.le_of_ble_eq_true rfl) (Nat.le_of_ble_eq_true rfl) hP
    · exact absurd (nI_le (a := m) (b := 16) (by omega) (by decide)) h7
end THR
