/-! CLASS AND MODEL DO THE SAME, call by call -/
def CPart (l : Launch) (D : va_G) (cy : Nat → ClassId) (zF z0 a0 K c m6 : Nat) (args : List Value) (S : List Nat) (HH : Nat → Ho) (k : Nat) (a : Option Value) (S' : List Nat) (HH' : Nat → Ho) : Prop :=
  ∀ (sh : fl_S) (V : fl_V) (n : Nat) (E : Nat → Nat) (R : Nat → List Nat), CL sh V n K a0 c E R S HH → fl_X l D cy zF z0 14 m6 (.ref (z0 + c) :: args) sh V n k (fun v sh' V' n' => v = a ∧ (∃ E' R', CL sh' V' n' K a0 c E' R' S' HH') ∧ FC c K sh V n sh' V' n')
def MPart (cy : Nat → ClassId) (z0 mb : Nat) (ext : Nat → Nat → List Value → ev_H → Nat → ev_P → Prop) (m7 : Nat) (args : List Value) (t : Nat) (S : List Nat) (HH : Nat → Ho) (k : Nat) (a : Option Value) (S' : List Nat) (HH' : Nat → Ho) : Prop :=
  ∀ (sh : fl_S) (V : fl_V) (n : Nat), isMo sh mb → Mo V mb (fun _ => t) S HH → fl_M cy z0 ext 15 m7 (.ref (z0 + mb) :: args) sh V n (fun v sh' V' n' => v = a ∧ sh' = sh ∧ n' = n ∧ Mo V' mb (fun _ => t + 1) S' HH' ∧ V' mb 0 = nI k ∧ OU mb V V')
def Tie (l : Launch) (D : va_G) (cy : Nat → ClassId) (zF z0 a0 K c mb : Nat) (ext : Nat → Nat → List Value → ev_H → Nat → ev_P → Prop) (km m6 m7 : Nat) (mk : Int32 → Option Value) (args : List Value) (t : Nat) (S : List Nat) (HH : Nat → Ho) : Prop :=
  ∃ (k : Nat) (x : Int32) (S' : List Nat) (HH' : Nat → Ho), k ≤ km ∧ JI (t + 1) HH' ∧ (k ≠ 0 → S' = S ∧ HH' = HH) ∧ CPart l D cy zF z0 a0 K c m6 args S HH k (mk x) S' HH' ∧ MPart cy z0 mb ext m7 args t S HH k (if k = 0 then mk x else mk (nI 0)) S' HH'
def mkI : Int32 → Option Value := fun x => some (.int x)
def mkV : Int32 → Option Value := fun _ => none
def ev_HX (l : Launch) (D : va_G) (cy : Nat → ClassId) (zF : Nat) (ext : Nat → Nat → List Value → ev_H → Nat → ev_P → Prop) : Prop := ∀ d m as f n Post md code, ext d m as f n Post → ev_ms[m]? = some (md, code) → ev_Mt l D cy zF (d + 1) md as f n Post
section OPS
variable {l : Launch} {D : va_G} {cy : Nat → ClassId} {zF z0 a0 K c mb : Nat} {ext : Nat → Nat → List Value → ev_H → Nat → ev_P → Prop}
variable {t : Nat} {S : List Nat} {HH : Nat → Ho}
theorem Tie.no {km m6 m7 k : Nat} {mk : Int32 → Option Value} {args : List Value} (hext : ev_HX l D cy zF ext) (hst : l.stackTraces = false) (hJ : JI t HH) (ht : t < 512) {E9 : String} (hk : k = 1 ∧ E9 = ev_IAE ∨ k = 2 ∧ E9 = ev_ISE) (hkm : k ≤ km)
    (hT : ∀ (sh : fl_S) (V : fl_V) (n : Nat) (E : Nat → Nat) (R : Nat → List Nat), CL sh V n K a0 c E R S HH → fl_T cy z0 ext 13 m6 (.ref (z0 + c) :: args) sh V n E9)
    (hM : ∀ (sh : fl_S) (V : fl_V) (n : Nat), isMo sh mb → Mo V mb (fun _ => t) S HH → fl_M cy z0 ext 15 m7 (.ref (z0 + mb) :: args) sh V n (fun v sh' V' n' => v = mk (nI 0) ∧ sh' = sh ∧ n' = n ∧ V' = up2 V mb 0 (nI k))) : Tie l D cy zF z0 a0 K c mb ext km m6 m7 mk args t S HH := by
  refine ⟨k, 0, S, HH, hkm, hJ.mono, fun _ => ⟨rfl, rfl⟩, fun sh V n E R hL => (hT sh V n E R hL |> fl_X.thr hext hst (by decide) hk), fun sh V n hm hMo => (hM sh V n hm hMo).mono (fun v sh' V' n' h => ?_)⟩
  obtain ⟨h1, h2, h3, h4⟩ := h
  subst h4
  have hk0 : k ≠ 0 := by omega
  rw [if_neg hk0]
  exact ⟨h1, h2, h3, (hMo.tmp FM.zero).mono (fun i _ => ⟨Nat.le_succ _, by omega⟩), up2_s, OU.zero⟩
theorem Tie.yes {km m6 m7 : Nat} {mk : Int32 → Option Value} {args : List Value} {x : Int32} {S' : List Nat} {HH' : Nat → Ho} (hext : ev_HX l D cy zF ext) (ht : t < 512) (hJ : JI (t + 1) HH')
    (hC : ∀ (sh : fl_S) (V : fl_V) (n : Nat) (E : Nat → Nat) (R : Nat → List Nat), CL sh V n K a0 c E R S HH → fl_M cy z0 ext 14 m6 (.ref (z0 + c) :: args) sh V n (fun v sh' V' n' => v = mk x ∧ (∃ E' R', CL sh' V' n' K a0 c E' R' S' HH') ∧ FC c K sh V n sh' V' n'))
    (hM : ∀ (sh : fl_S) (V : fl_V) (n : Nat), isMo sh mb → Mo V mb (fun _ => t) S HH → ∃ T' : Nat → Nat, (∀ i, i < 2 → T' i ≤ t + 1) ∧ fl_M cy z0 ext 15 m7 (.ref (z0 + mb) :: args) sh V n (fun v sh' V' n' => v = mk x ∧ sh' = sh ∧ n' = n ∧ Mo V' mb T' S' HH' ∧ V' mb 0 = nI 0 ∧ OU mb V V')) : Tie l D cy zF z0 a0 K c mb ext km m6 m7 mk args t S HH := by
  refine ⟨0, x, S', HH', Nat.zero_le _, hJ, fun h => absurd rfl h, fun sh V n E R hL => fl_X.ret hext (hC sh V n E R hL), fun sh V n hm hMo => ?_⟩
  obtain ⟨T', hT', h⟩ := hM sh V n hm hMo
  refine h.mono (fun v sh' V' n' h => ?_)
  obtain ⟨h1, h2, h3, h4, h5⟩ := h
  exact ⟨h1, h2, h3, h4.mono (fun i hi => ⟨hT' i hi, by omega⟩), h5⟩
theorem tie_service (hext : ev_HX l D cy zF ext) (hst : l.stackTraces = false) (hJ : JI t HH) (ht : t < 512) {u s m p q : Int32} : Tie l D cy zF z0 a0 K c mb ext 1 m_X6_service m_X7_service mkV [.int u, .int s, .int m, .int p, .int q] t S HH := by
  by_cases hh : (isHostB u && isOfferB s m p q) = true
  · have htd : isToldB u s m p q = true := by rw [toldB]; exact hh
    rw [Bool.and_eq_true] at hh
    obtain ⟨i, hi, rfl⟩ := host_of hh.1
    obtain ⟨s, m, p, q, rfl, rfl, rfl, rfl, b1, b2, b3, b4⟩ := offer_of hh.2
    refine Tie.yes (x := 0) (S' := S) (HH' := va_up HH i (ho_tell (HH i) s m p q)) hext ht ⟨hJ.1.up hi (ho_unit_as rfl rfl rfl rfl) (fun O z => z), (hJ.2.mono (Nat.le_succ _)).up ((hJ.2 i hi).1.tell (by omega) p q) (hJ.2 i hi).2.1 (Nat.le_succ_of_le (hJ.2 i hi).2.2)⟩ (fun sh V n E R hL => ?_) (fun sh V n hm hM => ⟨_, fun i _ => Nat.le_succ _, ?_⟩)
    · exact e_service hL hi (by omega) (by omega) (by omega) (by omega) hh.2
    · exact m_service hm hM hi (by omega) htd (by omega) (by omega) (by omega) (by omega)
  · rw [Bool.not_eq_true] at hh
    refine Tie.no hext hst hJ ht (Or.inl ⟨rfl, rfl⟩) (Nat.le_refl _) (fun sh V n E R hL => t_service hh) (fun sh V n hm hM => m_service_no hm (by rw [toldB]; exact hh))
theorem tie_connect (hext : ev_HX l D cy zF ext) (hst : l.stackTraces = false) (hA : AlOK cy z0 a0 ext) (hJ : JI t HH) (ht : t < 512) {u s m p q : Int32} : Tie l D cy zF z0 a0 K c mb ext 1 m_X6_connect m_X7_connect mkI [.int u, .int s, .int m, .int p, .int q] t S HH := by
  by_cases hh : (isHostB u && isOfferB s m p q) = true
  · have htd : isToldB u s m p q = true := by rw [toldB]; exact hh
    rw [Bool.and_eq_true] at hh
    obtain ⟨i, hi, rfl⟩ := host_of hh.1
    obtain ⟨s, m, p, q, rfl, rfl, rfl, rfl, b1, b2, b3, b4⟩ := offer_of hh.2
    have hv := hJ.2 i hi
    cases hcl : ho_closed (HH i) with
    | none =>
      refine Tie.yes (x := -2) (S' := S) (HH' := HH) hext ht hJ.mono (fun sh V n E R hL => ?_) (fun sh V n hm hM => ⟨_, fun i _ => Nat.le_succ _, ?_⟩)
      · have := e_connect_full (d := 1) hL hA hJ.2.si2 hi hcl (s := s) (m := m) (p := p) (cr := q) (by omega) (by omega) (by omega) (by omega) hh.2
        rw [hJ.1.send] at this
        exact this
      · exact m_connect_full hm hM hi htd (by omega) (by omega) (by omega) (by omega) hcl
    | some k =>
      have hk := (first4_lt hcl).1
      have hup : JJ (t + 1) (va_up HH i (ho_ask (HH i) k s m p q)) := (hJ.2.mono (Nat.le_succ _)).up (hv.1.ask hk (by omega) s p q) hv.2.1 (by rw [show (ho_ask (HH i) k s m p q).2.2.2.2.1.length = (HH i).2.2.2.2.1.length + 1 by simp [ho_ask]]; exact Nat.succ_le_succ hv.2.2)
      refine Tie.yes (x := nI (64 + k)) (S' := S) (HH' := st_send (va_up HH i (ho_ask (HH i) k s m p q))) hext ht hup.send (fun sh V n E R hL => ?_) (fun sh V n hm hM => ⟨_, fun i _ => Nat.le_refl _, ?_⟩)
      · exact e_connect hL hA hi hcl hv.1.2.2.1 (by omega) (by omega) (by omega) (by omega) (by omega) hh.2 hup.si2
      · exact m_connect hm hM hi htd (by omega) (by omega) (by omega) (by omega) hcl (fun i _ => by omega) hup.si2
  · rw [Bool.not_eq_true] at hh
    refine Tie.no hext hst hJ ht (Or.inl ⟨rfl, rfl⟩) (Nat.le_refl _) (fun sh V n E R hL => t_connect hh) (fun sh V n hm hM => m_connect_no hm (by rw [toldB]; exact hh))
theorem tie_feed (hext : ev_HX l D cy zF ext) (hst : l.stackTraces = false) (hJ : JI t HH) (ht : t < 512) {u ca cb cc cd : Int32} : Tie l D cy zF z0 a0 K c mb ext 2 m_X6_feed m_X7_feed mkI [.int u, .int ca, .int cb, .int cc, .int cd] t S HH := by
  by_cases hh : isInB u (nI 0) (nI 16) = true
  · obtain ⟨m, -, hm, rfl⟩ := nat_of (by decide) (by decide) hh
    by_cases hf : S.length + m ≤ 120
    · refine Tie.yes (x := nI (S.length + m)) (S' := S ++ (List.range m).map (fbyte ca cb cc cd)) (HH' := HH) hext ht hJ.mono (fun sh V n E R hL => ?_) (fun sh V n h7 hM => ⟨_, fun i _ => Nat.le_succ _, ?_⟩)
      · exact e_feed hL hm hf
      · exact m_feed h7 hM hm hf
    · exact Tie.no hext hst hJ ht (Or.inr ⟨rfl, rfl⟩) (Nat.le_refl _) (fun sh V n E R hL => t_feed2 hL hm (by omega)) (fun sh V n h7 hM => m_feed_no2 h7 hM hm (by omega))
  · rw [Bool.not_eq_true] at hh
    exact Tie.no hext hst hJ ht (Or.inl ⟨rfl, rfl⟩) (by decide) (fun sh V n E R hL => t_feed1 hh) (fun sh V n hm hM => m_feed_no1 hm hh)
theorem tie_send (hext : ev_HX l D cy zF ext) (hst : l.stackTraces = false) (hA : AlOK cy z0 a0 ext) (hJ : JI t HH) (ht : t < 512) {u w : Int32} : Tie l D cy zF z0 a0 K c mb ext 2 m_X6_send m_X7_send mkI [.int u, .int w] t S HH := by
  by_cases hh : (isHostB u && isChB w) = true
  · rw [Bool.and_eq_true] at hh
    obtain ⟨i, hi, rfl⟩ := host_of hh.1
    obtain ⟨k, hk, rfl⟩ := ch_of hh.2
    have hv := hJ.2 i hi
    by_cases hs2 : ((HH i).2.1 k).1 1 = 2
    · by_cases hno : ((HH i).2.1 k).1 7 < S.length ∨ ((HH i).2.1 k).2.2.1.length = 2
      · refine Tie.yes (x := -2) (S' := S) (HH' := HH) hext ht hJ.mono (fun sh V n E R hL => ?_) (fun sh V n hm hM => ⟨_, fun i _ => Nat.le_succ _, ?_⟩)
        · exact e_send_full hL hi hk hs2 hno
        · exact m_send_full hm hM hi hk hs2 hno
      · have hup : JJ (t + 1) (va_up HH i (hoC (HH i) k (txPut ((HH i).2.1 k) S))) := (hJ.2.mono (Nat.le_succ _)).up (hv.1.c ((hv.1.1 k hk).tx S)) hv.2.1 (Nat.le_succ_of_le hv.2.2)
        by_cases hl2 : ((HH i).2.1 k).2.2.1.length < 2
        · refine Tie.yes (x := nI (((HH i).2.1 k).2.2.1.length + 1)) (S' := []) (HH' := st_send (va_up HH i (hoC (HH i) k (txPut ((HH i).2.1 k) S)))) hext ht hup.send (fun sh V n E R hL => ?_) (fun sh V n hm hM => ⟨_, fun i _ => Nat.le_succ _, ?_⟩)
          · exact e_send hL hi hk hs2 hA (by omega) hl2 hup.si2
          · exact m_send hm hM hi hk hs2 (by omega) hl2 hup.si2
        · refine Tie.yes (x := -2) (S' := S) (HH' := HH) hext ht hJ.mono (fun sh V n E R hL => ?_) (fun sh V n hm hM => ?_)
          · exfalso
            obtain ⟨h9, T9⟩ := ((hL.host hi).ch hk).2.2.2.2.2.1
            have := T9.2.2.2.1
            omega
          · exfalso
            have := ((hM.2 i hi).2.2.2.2.2.2 k hk).2.2.2.2.1
            omega
    · exact Tie.no hext hst hJ ht (Or.inr ⟨rfl, rfl⟩) (Nat.le_refl _) (fun sh V n E R hL => t_send2 hL hi hk hs2) (fun sh V n hm hM => m_send_no2 hm hM.at hi hk hs2)
  · rw [Bool.not_eq_true] at hh
    exact Tie.no hext hst hJ ht (Or.inl ⟨rfl, rfl⟩) (by decide) (fun sh V n E R hL => t_send1 hh) (fun sh V n hm hM => m_send_no1 hm (by rw [Bool.and_true, ← hostB_M, ← chB_in]; exact hh))
theorem tie_grant (hext : ev_HX l D cy zF ext) (hst : l.stackTraces = false) (hA : AlOK cy z0 a0 ext) (hJ : JI t HH) (ht : t < 512) {u w x : Int32} : Tie l D cy zF z0 a0 K c mb ext 2 m_X6_grant m_X7_grant mkI [.int u, .int w, .int x] t S HH := by
  by_cases hh : (isHostB u && isChB w && isInB x 1 1000) = true
  · rw [Bool.and_eq_true, Bool.and_eq_true] at hh
    obtain ⟨i, hi, rfl⟩ := host_of hh.1.1
    obtain ⟨k, hk, rfl⟩ := ch_of hh.1.2
    obtain ⟨cr, c1, c2, rfl⟩ := nat_of (a := 1) (b := 1000) (by decide) (by decide) hh.2
    have hv := hJ.2 i hi
    by_cases hs2 : ((HH i).2.1 k).1 1 = 2
    · by_cases hg : ((HH i).2.1 k).1 5 + cr ≤ 65535
      · have hup : JJ (t + 1) (va_up HH i (ho_give (HH i) k cr)) := (hJ.2.mono (Nat.le_succ _)).up (hv.1.give hk cr) hv.2.1 (by rw [show (ho_give (HH i) k cr).2.2.2.2.1.length = (HH i).2.2.2.2.1.length + 1 by simp [ho_give]]; exact Nat.succ_le_succ hv.2.2)
        refine Tie.yes (x := nI (((st_send (va_up HH i (ho_give (HH i) k cr)) i).2.1 k).1 5)) (S' := S) (HH' := st_send (va_up HH i (ho_give (HH i) k cr))) hext ht hup.send (fun sh V n E R hL => ?_) (fun sh V n hm hM => ⟨_, fun i _ => Nat.le_refl _, ?_⟩)
        · exact e_grant hL hA hi hk hs2 c1 c2 hg hv.1.2.2.1 (by omega) hup.si2
        · exact m_grant hm hM hi hk hs2 c1 c2 hg (fun i _ => by omega) hup.si2
      · refine Tie.yes (x := -2) (S' := S) (HH' := HH) hext ht hJ.mono (fun sh V n E R hL => ?_) (fun sh V n hm hM => ⟨_, fun i _ => Nat.le_succ _, ?_⟩)
        · exact e_grant_full hL hA hi hk hs2 c1 c2 (by omega)
        · exact m_grant_full hm hM hi hk hs2 c1 c2 (by omega)
    · obtain ⟨d1, d2⟩ := of_decide_eq_true hh.2
      exact Tie.no hext hst hJ ht (Or.inr ⟨rfl, rfl⟩) (Nat.le_refl _) (fun sh V n E R hL => t_grant2 hL hi hk hs2 d1 d2) (fun sh V n hm hM => m_grant_no2 hm hM.at hi hk hs2 hh.2)
  · rw [Bool.not_eq_true] at hh
    exact Tie.no hext hst hJ ht (Or.inl ⟨rfl, rfl⟩) (by decide) (fun sh V n E R hL => t_grant1 hh) (fun sh V n hm hM => m_grant_no1 hm (by rw [← hostB_M, ← chB_in]; exact hh))
theorem tie_leave (hext : ev_HX l D cy zF ext) (hst : l.stackTraces = false) (hA : AlOK cy z0 a0 ext) (hJ : JI t HH) (ht : t < 512) {u w : Int32} : Tie l D cy zF z0 a0 K c mb ext 2 m_X6_leave m_X7_leave mkV [.int u, .int w] t S HH := by
  by_cases hh : (isHostB u && isChB w) = true
  · rw [Bool.and_eq_true] at hh
    obtain ⟨i, hi, rfl⟩ := host_of hh.1
    obtain ⟨k, hk, rfl⟩ := ch_of hh.2
    have hv := hJ.2 i hi
    by_cases hs2 : ((HH i).2.1 k).1 1 = 2
    · have hup : JJ (t + 1) (va_up HH i (ho_leave (HH i) k)) := (hJ.2.mono (Nat.le_succ _)).up (hv.1.leave hk) hv.2.1 (by rw [Q_leave]; omega)
      refine Tie.yes (x := 0) (S' := S) (HH' := st_send (va_up HH i (ho_leave (HH i) k))) hext ht hup.send (fun sh V n E R hL => ?_) (fun sh V n hm hM => ⟨_, fun i _ => Nat.le_refl _, ?_⟩)
      · exact e_leave hL hA hi hk hs2 hv.1.2.2.1 (by omega) hup.si2
      · exact m_leave hm hM hi hk hs2 (fun i _ => by omega) hup.si2
    · exact Tie.no hext hst hJ ht (Or.inr ⟨rfl, rfl⟩) (Nat.le_refl _) (fun sh V n E R hL => t_leave2 hL hi hk hs2) (fun sh V n hm hM => m_leave_no2 hm hM.at hi hk hs2)
  · rw [Bool.not_eq_true] at hh
    exact Tie.no hext hst hJ ht (Or.inl ⟨rfl, rfl⟩) (by decide) (fun sh V n E R hL => t_leave1 hh) (fun sh V n hm hM => m_leave_no1 hm (by rw [Bool.and_true, ← hostB_M, ← chB_in]; exact hh))
theorem tie_take (hext : ev_HX l D cy zF ext) (hst : l.stackTraces = false) (hA : AlOK cy z0 a0 ext) (hJ : JI t HH) (ht : t < 512) {u : Int32} : Tie l D cy zF z0 a0 K c mb ext 1 m_X6_take m_X7_take mkI [.int u] t S HH := by
  by_cases hh : isHostB u = true
  · obtain ⟨i, hi, rfl⟩ := host_of hh
    have hv := hJ.2 i hi
    cases hw : (HH i).2.2.2.1 with
    | nil =>
      refine Tie.yes (x := -1) (S' := S) (HH' := HH) hext ht hJ.mono (fun sh V n E R hL => ?_) (fun sh V n hm hM => ⟨_, fun i _ => Nat.le_succ _, ?_⟩)
      · exact e_take0 hL hi hw
      · exact m_take0 hm hM hi hw
    | cons y ps =>
      have hs4 : sents ps ≤ 4 := sents_tl (y := y) (by rw [← hw]; exact hv.2.1)
      have hup : JJ (t + 1) (va_up HH i (ho_take (HH i) y ps)) := (hJ.2.mono (Nat.le_succ _)).up (hv.1.take y ps) hs4 (Nat.le_trans Q_take (by omega))
      refine Tie.yes (x := nI y.2.2.length) (S' := S) (HH' := st_send (va_up HH i (ho_take (HH i) y ps))) hext ht hup.send (fun sh V n E R hL => ?_) (fun sh V n hm hM => ⟨_, fun i _ => Nat.le_refl _, ?_⟩)
      · exact e_take hL hA hi hw hv.1.2.2.1 (by omega) (fun j hj => ⟨(hv.1.1 j hj).1, (hv.1.1 j hj).2.1⟩) ho_gath_4 hup.si2
      · exact m_take hm hM hi hw hv.1.hi (fun i _ => by omega) hup.si2
  · rw [Bool.not_eq_true] at hh
    exact Tie.no hext hst hJ ht (Or.inl ⟨rfl, rfl⟩) (by decide) (fun sh V n E R hL => t_take hh) (fun sh V n hm hM => m_take_no hm (by rw [← hostB_M]; exact hh))
theorem tie_lose (hext : ev_HX l D cy zF ext) (hst : l.stackTraces = false) (hA : AlOK cy z0 a0 ext) (hJ : JI t HH) (ht : t < 512) {u : Int32} : Tie l D cy zF z0 a0 K c mb ext 1 m_X6_lose m_X7_lose mkI [.int u] t S HH := by
  by_cases hh : isHostB u = true
  · obtain ⟨i, hi, rfl⟩ := host_of hh
    have hv := hJ.2 i hi
    cases hw : (HH i).2.2.2.1 with
    | nil =>
      refine Tie.yes (x := 0) (S' := S) (HH' := HH) hext ht hJ.mono (fun sh V n E R hL => ?_) (fun sh V n hm hM => ⟨_, fun i _ => Nat.le_succ _, ?_⟩)
      · have := e_lose0 (d := 1) hL hA hJ.2.si2 hi hw
        rw [hJ.1.send] at this
        exact this
      · exact m_lose0 hm hM hi hw
    | cons y ps =>
      have hs4 : sents ps ≤ 4 := sents_tl (y := y) (by rw [← hw]; exact hv.2.1)
      have hup : JJ (t + 1) (va_up HH i (hoW (HH i) ps)) := (hJ.2.mono (Nat.le_succ _)).up hv.1.w hs4 (Nat.le_succ_of_le hv.2.2)
      refine Tie.yes (x := 1) (S' := S) (HH' := st_send (va_up HH i (hoW (HH i) ps))) hext ht hup.send (fun sh V n E R hL => ?_) (fun sh V n hm hM => ⟨_, fun i _ => Nat.le_succ _, ?_⟩)
      · exact e_lose hL hA hi hw hup.si2
      · exact m_lose hm hM hi hw hup.si2
  · rw [Bool.not_eq_true] at hh
    exact Tie.no hext hst hJ ht (Or.inl ⟨rfl, rfl⟩) (by decide) (fun sh V n E R hL => t_lose hh) (fun sh V n hm hM => m_lose_no hm (by rw [← hostB_M]; exact hh))
theorem tie_inject (hext : ev_HX l D cy zF ext) (hst : l.stackTraces = false) (hJ : JI t HH) (ht : t < 512) {u w x : Int32} : Tie l D cy zF z0 a0 K c mb ext 1 m_X6_inject m_X7_inject mkI [.int u, .int w, .int x] t S HH := by
  by_cases hh : (isHostB u && isInB w 0 65535 && isInB x 0 100) = true
  · rw [Bool.and_eq_true, Bool.and_eq_true] at hh
    obtain ⟨i, hi, rfl⟩ := host_of hh.1.1
    obtain ⟨num, -, c1, rfl⟩ := nat_of (a := 0) (b := 65535) (by decide) (by decide) hh.1.2
    obtain ⟨more, -, c2, rfl⟩ := nat_of (a := 0) (b := 100) (by decide) (by decide) hh.2
    have hv := hJ.2 i hi
    by_cases hf : (HH i).2.2.2.1.length + ((S.length + 30) / 27) ≤ 32
    · have hup : JI (t + 1) (va_up HH i (hoW (HH i) ((HH i).2.2.2.1 ++ (List.range ((S.length + 30) / 27)).map (injPk (injUnit S num more))))) := ⟨hJ.1.up hi ho_unit_w (fun O z => dn_inj z), (hJ.2.mono (Nat.le_succ _)).up hv.1.w (by show sents (_ ++ _) ≤ 4; rw [sents_inj]; exact hv.2.1) (Nat.le_succ_of_le hv.2.2)⟩
      refine Tie.yes (x := nI ((S.length + 30) / 27)) (S' := S) (HH' := va_up HH i (hoW (HH i) ((HH i).2.2.2.1 ++ (List.range ((S.length + 30) / 27)).map (injPk (injUnit S num more))))) hext ht hup (fun sh V n E R hL => ?_) (fun sh V n hm hM => ⟨_, fun i _ => Nat.le_succ _, ?_⟩)
      · exact e_inject hL hi c1 c2 hf
      · have := m_inject (cy := cy) (z0 := z0) (ext := ext) (d := 8) (n := n) hm hM hi c1 c2 hf hup.2.si2
        rw [hup.1.send] at this
        exact this
    · refine Tie.yes (x := -2) (S' := S) (HH' := HH) hext ht hJ.mono (fun sh V n E R hL => ?_) (fun sh V n hm hM => ⟨_, fun i _ => Nat.le_succ _, ?_⟩)
      · exact e_inject_full hL hi c1 c2 (by omega)
      · exact m_inject_full hm hM hi c1 c2 (by omega)
  · rw [Bool.not_eq_true] at hh
    exact Tie.no hext hst hJ ht (Or.inl ⟨rfl, rfl⟩) (by decide) (fun sh V n E R hL => t_inject hh) (fun sh V n hm hM => m_inject_no hm (by rw [← hostB_M]; exact hh))
theorem tie_receive (hext : ev_HX l D cy zF ext) (hst : l.stackTraces = false) (hJ : JI t HH) (ht : t < 512) {u w : Int32} : Tie l D cy zF z0 a0 K c mb ext 1 m_X6_receive m_X7_receive mkI [.int u, .int w] t S HH := by
  by_cases hh : (isHostB u && isChB w) = true
  · rw [Bool.and_eq_true] at hh
    obtain ⟨i, hi, rfl⟩ := host_of hh.1
    obtain ⟨k, hk, rfl⟩ := ch_of hh.2
    have hv := hJ.2 i hi
    cases hr : ((HH i).2.1 k).2.2.2.1 with
    | nil =>
      refine Tie.yes (x := -1) (S' := S) (HH' := HH) hext ht hJ.mono (fun sh V n E R hL => ?_) (fun sh V n hm hM => ⟨_, fun i _ => Nat.le_succ _, ?_⟩)
      · exact e_receive0 hL hi hk hr
      · exact m_receive0 hm hM hi hk hr
    | cons y ys =>
      refine Tie.yes (x := nI y.length) (S' := y) (HH' := va_up HH i (hoC (HH i) k (rxDrop ((HH i).2.1 k) ys))) hext ht ⟨hJ.1.up hi (ho_unit_as rfl rfl rfl ho_next_rx) (fun O z => z), (hJ.2.mono (Nat.le_succ _)).up (hv.1.c ((hv.1.1 k hk).rx hr)) hv.2.1 (Nat.le_succ_of_le hv.2.2)⟩ (fun sh V n E R hL => ?_) (fun sh V n hm hM => ⟨_, fun i _ => Nat.le_succ _, ?_⟩)
      · exact e_receive hL hi hk hr
      · exact m_receive hm hM hi hk hr
  · rw [Bool.not_eq_true] at hh
    exact Tie.no hext hst hJ ht (Or.inl ⟨rfl, rfl⟩) (by decide) (fun sh V n E R hL => t_receive hh) (fun sh V n hm hM => m_receive_no hm (by rw [← hostB_M, ← chB_in]; exact hh))
theorem tie_channel (hext : ev_HX l D cy zF ext) (hst : l.stackTraces = false) (hJ : JI t HH) (ht : t < 512) {u w x : Int32} : Tie l D cy zF z0 a0 K c mb ext 1 m_X6_channel m_X7_channel mkI [.int u, .int w, .int x] t S HH := by
  by_cases hh : (isHostB u && isChB w && isInB x 0 7) = true
  · rw [Bool.and_eq_true, Bool.and_eq_true] at hh
    obtain ⟨i, hi, rfl⟩ := host_of hh.1.1
    obtain ⟨k, hk, rfl⟩ := ch_of hh.1.2
    obtain ⟨v, -, c1, rfl⟩ := nat_of (a := 0) (b := 7) (by decide) (by decide) hh.2
    refine Tie.yes (x := nI (chVal ((HH i).2.1 k) v)) (S' := S) (HH' := HH) hext ht hJ.mono (fun sh V n E R hL => ?_) (fun sh V n hm hM => ⟨_, fun i _ => Nat.le_succ _, ?_⟩)
    · exact (e_channel (d := 1) hL hi hk (w := v) (by omega)).mono (fun v sh' V' n' h => by
        obtain ⟨h1, rfl, rfl, rfl⟩ := h
        exact ⟨h1, ⟨E, R, hL⟩, FC.refl⟩)
    · exact m_channel hm hM hi hk (by omega)
  · rw [Bool.not_eq_true] at hh
    exact Tie.no hext hst hJ ht (Or.inl ⟨rfl, rfl⟩) (by decide) (fun sh V n E R hL => t_channel hh) (fun sh V n hm hM => m_channel_no hm (by rw [← hostB_M, ← chB_in]; exact hh))
theorem tie_count (hext : ev_HX l D cy zF ext) (hst : l.stackTraces = false) (hJ : JI t HH) (ht : t < 512) {u w : Int32} : Tie l D cy zF z0 a0 K c mb ext 1 m_X6_count m_X7_count mkI [.int u, .int w] t S HH := by
  by_cases hh : (isHostB u && isInB w 0 6) = true
  · rw [Bool.and_eq_true] at hh
    obtain ⟨i, hi, rfl⟩ := host_of hh.1
    obtain ⟨v, -, c1, rfl⟩ := nat_of (a := 0) (b := 6) (by decide) (by decide) hh.2
    have h4 := (hJ.2 (1 - i) (by omega)).2.1
    refine Tie.yes (x := nI (cntVal (HH i) (HH (1 - i)) v)) (S' := S) (HH' := HH) hext ht hJ.mono (fun sh V n E R hL => ?_) (fun sh V n hm hM => ⟨_, fun i _ => Nat.le_succ _, ?_⟩)
    · exact (e_count (d := 1) hL hi h4 (w := v) (by omega)).mono (fun v sh' V' n' h => by
        obtain ⟨h1, rfl, rfl, rfl⟩ := h
        exact ⟨h1, ⟨E, R, hL⟩, FC.refl⟩)
    · exact m_count hm hM hi (by omega) h4
  · rw [Bool.not_eq_true] at hh
    exact Tie.no hext hst hJ ht (Or.inl ⟨rfl, rfl⟩) (by decide) (fun sh V n E R hL => t_count hh) (fun sh V n hm hM => m_count_no hm (by rw [← hostB_M]; exact hh))
end OPS
