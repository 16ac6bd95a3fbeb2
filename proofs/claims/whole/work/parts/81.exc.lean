/-! METHODS THAT MAY THROW -/
def ev_dy (k : Nat) : MethodName := match k with
  | 0 => ⟨"java/lang/RuntimeException", "<init>", "()V"⟩
  | 1 => ⟨"java/lang/Exception", "<init>", "()V"⟩
  | _ => ⟨"java/lang/Throwable", "<init>", "()V"⟩
def ev_dq (y : MethodName) (U : State) : Prop := (Cond.declares y).before #[] U = true
theorem ev_dq.moved {y : MethodName} {u U : State} (hvm : u.vm.Alike U.vm) (h : ev_dq y u) : ev_dq y U := by
  have h1 : (Cond.declares y).before #[] (u.setVm U.vm) = true := by rw [Cond.declares_setVm hvm]; exact h
  have e := Cond.onTables_vm (A := #[]) (A' := #[]) (U := u) (U' := U) U.vm (Cond.declares y) rfl
  rw [show U.setVm U.vm = U from rfl] at e
  unfold ev_dq
  rw [← e]
  exact h1
def ev_IAE : String := "java/lang/IllegalArgumentException"
def ev_ISE : String := "java/lang/IllegalStateException"
def ev_nms : List String := ["java/lang/RuntimeException", "java/lang/Exception"]
/-- what throwing and catching ask beside the rest -/
def ev_xw (U : State) : Prop := (∀ k, k < 3 → ev_dq (ev_dy k) U) ∧ va_Nc ev_ISE ev_IAE U
theorem ev_xw.moved {u U : State} (hvm : u.vm.Alike U.vm) (h : ev_xw u) : ev_xw U := ⟨fun k hk => (h.1 k hk).moved hvm, h.2.moved hvm⟩
def ev_GX (D : va_G) (cy : Nat → ClassId) (z0 : Nat) (f : ev_H) (n : Nat) (U : State) : Prop := ev_G D cy z0 f n U ∧ ev_xw U
theorem ev_G.mv {D : va_G} {cy : Nat → ClassId} {z0 : Nat} {f : ev_H} {n : Nat} {u U : State} (hh : U.heap = u.heap) (hW : u.WarmedH U.vm) (h : ev_G D cy z0 f n u) : ev_G D cy z0 f n U := by
  obtain ⟨q1, q2, q3, q4, q5, qK, qw, qs⟩ := h
  exact ⟨by rw [hh]; exact q1, by rw [hh]; exact q2, q3, q4, q5, va_K.moved hW.alike qK, fun w hw => ev_nw_warm (List.mem_filter.mp hw).2 hW (qw w hw), by rw [hh]; exact qs.moved hW.alike⟩
theorem ev_blindX {D : va_G} {cy : Nat → ClassId} {z0 : Nat} {as : List Value} {f : ev_H} {n : Nat} : FrameBlind (va_Pc as (ev_GX D cy z0 f n)) := fun a U g mk q => by
  obtain ⟨q0, q1, q2⟩ := q
  have := ev_blind (D := D) (cy := cy) (z0 := z0) (as := as) (f := f) (n := n) a U g mk ⟨q0, q1⟩
  exact ⟨q0, this.2, q2.moved (u := U) (U := U.calling g mk a) (Vm.Alike.refl U.vm)⟩
/-- what is known where a method has thrown -/
def ev_XQ (D : va_G) (cy : Nat → ClassId) (z0 : Nat) (PX : String → ev_H → Nat → Prop) : String → State → State → Prop := fun E st t => ∃ f' n', PX E f' n' ∧ t.heap.size = n' ∧ mh_P D vwCl f' t.heap ∧ mh_dm cy z0 f' ∧ mh_T cy f' ∧ va_F (fun q => z0 ≤ q) st t
/-- the contract of a method that returns or throws, at one start -/
def ev_Mx (l : Launch) (D : va_G) (cy : Nat → ClassId) (z0 d : Nat) (md : ev_Md) (as : List Value) (f : ev_H) (n : Nat) (Post : ev_P) (PX : String → ev_H → Nat → Prop) : Prop :=
  vx_Met l md.1 (ev_ws md) (ev_rm d md) (va_Pc as (ev_GX D cy z0 f n)) (ev_Qc D cy z0 Post) (ev_XQ D cy z0 PX) md.2.2.2.2.2.2.2.1 md.2.2.2.2.2.2.2.2 (fun q => z0 ≤ q)
theorem ev_Mx.of {l : Launch} {D : va_G} {cy : Nat → ClassId} {z0 d : Nat} {md : ev_Md} {as : List Value} {f : ev_H} {n : Nat} {Post : ev_P} {PX : String → ev_H → Nat → Prop} (h : ev_Mt l D cy z0 d md as f n Post) : ev_Mx l D cy z0 d md as f n Post PX := by
  unfold ev_Mt Met at h
  unfold ev_Mx vx_Met
  exact MetFree.mono h (fun a s q => ⟨q.1, q.2.1⟩) (fun _ _ _ _ _ q => q) (fun _ _ _ _ _ q => Or.inl q)
def ev_isc : Cond → Bool
  | .castable _ _ => true
  | _ => false
def ev_tx : List (Nat × Nat × String) := [(36, 38, ev_IAE), (54, 56, ev_ISE)]
def ev_is (code : List ev_I) (pc : Nat) (i : Instr) : Prop := ∃ q l a b w, ev_at code pc = some (q, i, l, a, b, w)
theorem ev_is.dec {code : List ev_I} {oc kd pc : Nat} {bytes : ByteArray} {i : Instr} (hok : code.all (ev_okb oc kd bytes) = true) (h : ev_is code pc i) : ∃ l, decode bytes pc = .ok (i, l) ∧ ev_lenb i l = true := by
  obtain ⟨q, l, a, b, w, hat⟩ := h
  obtain ⟨hmem, hpc⟩ := ev_at_mem hat
  have hk := List.all_eq_true.mp hok _ hmem
  unfold ev_okb at hk
  simp only [Bool.and_eq_true, decide_eq_true_eq] at hk
  exact ⟨l, by rw [hpc]; exact hk.1.1, hk.1.2⟩
/-- a new exception of the class's own making is thrown here -/
def ev_spT (mc ms : Nat) (PX : String → ev_H → Nat → Prop) (code : List ev_I) (g : ev_F) : Prop := match g with
  | (pc, _, st, f, n, c, sl) => ∃ k ic E, ev_is code pc (.new k) ∧ ev_is code (pc + 3) .dup ∧ ev_is code (pc + 4) (.invokespecial ic) ∧ ev_is code (pc + 7) .athrow ∧ (k, ic, E) ∈ ev_tx ∧ (st.map fun v => v.category).sum ≤ 8 ∧ c + 1 ≤ mc ∧ sl + 6 ≤ ms ∧ ∀ n', n ≤ n' → PX E f n'
set_option maxRecDepth 100000 in
theorem kt_IAE : vx_at0 RX6 38 ev_IAE ev_nms = ([69, 387, 396, 399, 402, 404, 388, 389, 86, 87, 390, 395, 400, 416, 377, 417, 379, 418, 381, 391, 393, 383, 406, 407, 408, 409, 368, 409, 410, 411, 412, 370, 412, 413, 414, 388, 372, 405, 366, 367, 374, 375, 376, 378, 380, 382, 386, 385, 384].filterMap fun i => lw_tbl[i]?) := by decide +kernel
set_option maxRecDepth 100000 in
theorem kt_IAE_c : Cond.classLink RX6 36 ev_IAE ∈ lw_tbl := List.mem_of_getElem? (i := 365) (by rfl)
set_option maxRecDepth 100000 in
theorem kt_IAE_i : Cond.initialized ev_IAE ∈ lw_tbl := List.mem_of_getElem? (i := 72) (by rfl)
theorem kt_IAE_g : (vx_at0 RX6 38 ev_IAE ev_nms).all (fun w => vx_ot w && (goodWord w || ev_isc w || decide (w = .declares (ev_dy 0)) || decide (w = .declares (ev_dy 1)) || decide (w = .declares (ev_dy 2)))) = true := by decide +kernel
theorem kt_IAE_f : Bundle.fit ev_IAE = true := by decide +kernel
set_option maxRecDepth 100000 in
theorem kt_ISE : vx_at0 RX6 56 ev_ISE ev_nms = ([69, 387, 396, 399, 402, 404, 388, 389, 86, 87, 390, 395, 400, 416, 377, 417, 379, 418, 381, 391, 393, 383, 628, 629, 630, 409, 368, 409, 410, 411, 412, 370, 412, 413, 414, 388, 372, 627, 619, 620, 621, 398, 622, 623, 624, 625, 386, 385, 626].filterMap fun i => lw_tbl[i]?) := by decide +kernel
set_option maxRecDepth 100000 in
theorem kt_ISE_c : Cond.classLink RX6 54 ev_ISE ∈ lw_tbl := List.mem_of_getElem? (i := 618) (by rfl)
set_option maxRecDepth 100000 in
theorem kt_ISE_i : Cond.initialized ev_ISE ∈ lw_tbl := List.mem_of_getElem? (i := 79) (by rfl)
theorem kt_ISE_g : (vx_at0 RX6 56 ev_ISE ev_nms).all (fun w => vx_ot w && (goodWord w || ev_isc w || decide (w = .declares (ev_dy 0)) || decide (w = .declares (ev_dy 1)) || decide (w = .declares (ev_dy 2)))) = true := by decide +kernel
theorem kt_ISE_f : Bundle.fit ev_ISE = true := by decide +kernel
theorem kt_n : ∀ n ∈ ev_nms, Bundle.fit n = true := by decide +kernel
theorem kt_words {args : Array Value} {s : State} (hts : ∀ w ∈ ev_gw, w.before args s = true) (hnw : ∀ w ∈ ev_nw, va_Nw w s) (hx : ev_xw s) {L : List Cond} (hm : ∀ w ∈ L, w ∈ lw_tbl) (hg : L.all (fun w => vx_ot w && (goodWord w || ev_isc w || decide (w = .declares (ev_dy 0)) || decide (w = .declares (ev_dy 1)) || decide (w = .declares (ev_dy 2)))) = true) : (∀ w ∈ L, w.before args s = true) ∧ ∀ w ∈ L, vx_ot w = true := by
  refine ⟨fun w hw => ?_, fun w hw => ?_⟩
  · have h1 := List.all_eq_true.mp hg w hw
    simp only [Bool.and_eq_true, Bool.or_eq_true, decide_eq_true_eq] at h1
    rcases h1.2 with (((h2 | h2) | h2) | h2) | h2
    · exact hts w (ev_gw_in (hm w hw) h2)
    · have hot : w.onTables = true ∧ ev_isn w = true := by
        unfold ev_isc at h2
        split at h2
        · exact ⟨rfl, rfl⟩
        · cases h2
      exact va_Nw.use hot.1 (hnw w (ev_nw_in (hm w hw) hot.2))
    · rw [h2]; exact va_any rfl (hx.1 0 (by decide))
    · rw [h2]; exact va_any rfl (hx.1 1 (by decide))
    · rw [h2]; exact va_any rfl (hx.1 2 (by decide))
  · have h1 := List.all_eq_true.mp hg w hw
    simp only [Bool.and_eq_true] at h1
    exact h1.1
theorem kt_in {L : List Cond} {ix : List Nat} (h : L = ix.filterMap fun i => lw_tbl[i]?) : ∀ w ∈ L, w ∈ lw_tbl := by
  intro w hw
  rw [h] at hw
  obtain ⟨i, -, hi⟩ := List.mem_filterMap.mp hw
  exact List.mem_of_getElem? hi
section SPT
variable {p : Program} {l : Launch} {e : Env} {R : Room} {s : State} {m : MethodId} {args : Array Value} {below : List Frame} {meth : Method} {cd : Code}
variable {D : va_G} {cy : Nat → ClassId} {z0 kd nl mc ms d : Nat} {bytes : ByteArray} {Post : ev_P} {PX : String → ev_H → Nat → Prop}
theorem ev_lenb_1 {i : Instr} {l : Nat} (h : ev_lenb i l = true) (hi : i = .dup ∨ i = .athrow) : l = 1 := by
  rcases hi with rfl | rfl <;> simpa [ev_lenb] using h
theorem ev_spT_sound {code : List ev_I} (C0 : ev_C p s m args meth cd D cy z0 6 kd nl bytes) (hx : ev_xw s) (hst : l.stackTraces = false) (hok : code.all (ev_okb 6 kd bytes) = true) (hR : 6 ≤ R.frames ∧ 100 ≤ R.locals ∧ mc ≤ R.cells ∧ ms ≤ R.slots) (hno : ∀ x ∈ cd.exceptionTable.toList, False) (hlocks : meth.locks = false) {g : ev_F} (h : ev_spT mc ms PX code g) : ev_W p l e R s m args below meth cd D cy z0 nl mc ms (vx_MQ below (ev_Qc D cy z0 Post) (ev_XQ D cy z0 PX) args s mc ms (fun q => z0 ≤ q)) g := by
  obtain ⟨pc, L, st, f, n, c, sl⟩ := g
  obtain ⟨k, ic, E, i0, i3, i4, i7, hmem, hsum, hc, hs, hPX⟩ := h
  obtain ⟨l0, d0, e0⟩ := i0.dec hok
  obtain ⟨l3, d3, e3⟩ := i3.dec hok
  obtain ⟨l4, d4, e4⟩ := i4.dec hok
  obtain ⟨l7, d7, e7⟩ := i7.dec hok
  have z0' : l0 = 3 := by simpa [ev_lenb] using e0
  have z3 : l3 = 1 := ev_lenb_1 e3 (Or.inl rfl)
  have z4 : l4 = 3 := by simpa [ev_lenb] using e4
  have z7 : l7 = 1 := ev_lenb_1 e7 (Or.inr rfl)
  subst z0'; subst z3; subst z4; subst z7
  obtain ⟨hx0, hb, hml, hown, hts, hnw, hK, hz, hin, hst0⟩ := id C0
  intro H ls locs hJ hl hc1 hcm hsm
  have hE : Bundle.fit E = true ∧ (Cond.classLink RX6 k E).before args s = true ∧ (Cond.initialized E).before args s = true ∧ (∀ w ∈ vx_at0 RX6 ic E ev_nms, w.before args s = true) ∧ (∀ w ∈ Cond.classLink RX6 k E :: Cond.initialized E :: vx_at0 RX6 ic E ev_nms, vx_ot w = true) := by
    simp only [ev_tx, List.mem_cons, Prod.mk.injEq, List.not_mem_nil, or_false] at hmem
    rcases hmem with ⟨rfl, rfl, rfl⟩ | ⟨rfl, rfl, rfl⟩
    · obtain ⟨w1, w2⟩ := kt_words hts hnw hx (kt_in kt_IAE) kt_IAE_g
      refine ⟨kt_IAE_f, hts _ (ev_gw_in kt_IAE_c rfl), hts _ (ev_gw_in kt_IAE_i rfl), w1, fun w hw => ?_⟩
      rcases List.mem_cons.mp hw with rfl | hw
      · rfl
      · rcases List.mem_cons.mp hw with rfl | hw
        · rfl
        · exact w2 w hw
    · obtain ⟨w1, w2⟩ := kt_words hts hnw hx (kt_in kt_ISE) kt_ISE_g
      refine ⟨kt_ISE_f, hts _ (ev_gw_in kt_ISE_c rfl), hts _ (ev_gw_in kt_ISE_i rfl), w1, fun w hw => ?_⟩
      rcases List.mem_cons.mp hw with rfl | hw
      · rfl
      · rcases List.mem_cons.mp hw with rfl | hw
        · rfl
        · exact w2 w hw
  obtain ⟨q1, q2, q3, q4, q5⟩ := id hJ
  refine vx_throw0 (A := fun q => z0 ≤ q) (names := ev_nms) hx0 hb hst hown hE.1 kt_n hE.2.1 hE.2.2.1 hE.2.2.2.1 hE.2.2.2.2 hst0.2.1 hst0.2.2.1 q5 (by rw [hml]; exact hl.1) d0 d3 d4 d7 (fun x hx => (hno x hx).elim) (by show 2 + 3 < R.frames; omega) (by show _ + (13 * (2 + 1) + 42) ≤ R.locals; omega) (by omega) (by omega) hlocks (fun t ha hsz hk => ?_) (fun z hz2 => q5.2.2 z hz2) hc hs
  exact ⟨f, t.heap.size, hPX _ (by rw [← q1]; exact hsz), rfl, fun a e he => q2.keep he (hk a (q2.lt he)), q3, q4, Nat.le_trans q5.1 hsz, fun q h1 h2 => (hk q (Nat.lt_of_lt_of_le h1 q5.1)).trans (q5.2.1 q h1 h2)⟩
end SPT
/-- a method of CreditLink that returns or throws, by its own body -/
theorem ev_Mx_own {l : Launch} {D : va_G} {cy : Nat → ClassId} {z0 : Nat} {ext : Nat → Nat → List Value → ev_H → Nat → ev_P → Prop} (hext : ∀ d m as f n Post md code, ext d m as f n Post → ev_ms[m]? = some (md, code) → ev_Mt l D cy z0 (d + 1) md as f n Post) (hst : l.stackTraces = false) {d m : Nat} (hd : 5 ≤ d) {as : List Value} {f : ev_H} {n : Nat} {Post : ev_P} {PX : String → ev_H → Nat → Prop} {y : MethodName} {bytes : ByteArray} {nl na kd mc ms : Nat} {rt : Option FieldType} {code : List ev_I} (hm : ev_ms[m]? = some ((y, bytes, nl, rt, 6, na, kd, mc, ms), code)) (hca : (as.all (fun v => v.category == 1) && decide (as.length ≤ nl)) = true)
    (hR : ev_R cy (ev_M cy ext d) (fun g _ => ev_spT mc ms PX code g) 6 mc ms nl rt code Post (0, lv_args 0 as, [], f, n, 0, 0)) : ev_Mx l D cy z0 (d + 1) (y, bytes, nl, rt, 6, na, kd, mc, ms) as f n Post PX := by
  have hmem : ((y, bytes, nl, rt, 6, na, kd, mc, ms), code) ∈ ev_ms := List.mem_of_getElem? hm
  rw [Bool.and_eq_true] at hca
  have hcat : ∀ v ∈ as, v.category = 1 := fun v hv => eq_of_beq (List.all_eq_true.mp hca.1 v hv)
  have hln : as.length ≤ nl := of_decide_eq_true hca.2
  obtain ⟨g1, g2, g3, g4, g5, g6, g7⟩ := ev_mdb_s hmem
  obtain ⟨-, hok⟩ := ev_ms_ok _ hmem
  refine vx_ofW (cc := bytes) (maxL := nl) (ret := rt) g1 rfl ?_
  intro p e s mm args below meth c s₁ B hml hno hv
  obtain ⟨rfl, ⟨hn, hP, hdom, hT, hz, hK, hnw, hst0⟩, hxw⟩ := hv
  have hts0 := atoms_spec (ws := ev_ws (y, bytes, nl, rt, 6, na, kd, mc, ms)) B.pre
  have hts : ∀ w ∈ ev_gw, w.before as.toArray s = true := fun w hw => hts0 w (List.mem_cons_of_mem _ hw)
  have hown : s.vm.findClass (ev_on 6) = some mm.cls := by
    have := findClass_of_methodNamed B.named
    rw [show y.cls = ev_on 6 from g6] at this
    exact this
  have hin : kd = 2 → meth.name = "<init>" := fun hk => (name_of_methodNamed B.named B.method).1.trans (g7 hk)
  have C0 : ev_C p s mm as.toArray meth c D cy z0 6 kd nl bytes := ⟨B.exec, B.bytes, hml, hown, hts, hnw, hK, by rw [hn]; exact hz, hin, hst0⟩
  have hl := lv_entry as (n := nl) (by rw [ev_sl_len hcat]; exact hln)
  rw [lg_entry_eq]
  have hW : ev_W p l e (ev_rm (d + 1) (y, bytes, nl, rt, 6, na, kd, mc, ms)) s mm as.toArray below meth c D cy z0 nl mc ms (vx_MQ below (ev_Qc D cy z0 Post) (ev_XQ D cy z0 PX) as.toArray s mc ms (fun q => z0 ≤ q)) (0, lv_args 0 as, [], f, n, 0, 0) :=
    hR _ (fun g' Y hY hs => ev_step_sound (d := d) C0 hok (ev_M_sound hext d) ⟨Nat.le_refl _, Nat.le_refl _⟩ (Nat.le_refl _) (Nat.le_refl _) (fun v f n H ls locs pc c sl i a1 a2 a3 a4 a5 a6 => vx_ret (ev_Rt_M C0 B.returns B.notSynchronized v f n H ls locs pc c sl i a1 a2 a3 a4 a5 a6)) (fun g Y hY h => ev_spT_sound C0 hxw hst hok ⟨by show 6 ≤ d + 1; omega, by show 100 ≤ 36 * (d + 1); omega, Nat.le_refl _, Nat.le_refl _⟩ hno B.notSynchronized h) hY hs)
  exact hW s.heap _ [] ⟨hn, hP, hdom, hT, va_S.rf⟩ hl (fun q hq => hcat _ (ev_args_m hq)) (Nat.zero_le _) (Nat.zero_le _)
