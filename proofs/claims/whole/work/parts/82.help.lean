/-! THE HELPERS AND THE LAW: a call that may throw, and its catching; the script -/
def ev_cat (hh : List (Nat × Nat × Nat × Nat)) (pc : Nat) (E : String) (h : Nat) : Prop :=
  (E = ev_IAE ∧ ∃ s e r, hh = (s, e, h, 13) :: r ∧ s ≤ pc ∧ pc < e) ∨ (E = ev_ISE ∧ ∃ s e h1 s2 e2 r, hh = (s, e, h1, 13) :: (s2, e2, h, 22) :: r ∧ s2 ≤ pc ∧ pc < e2)
set_option maxRecDepth 100000 in
theorem kh_IAE : Cond.classLink RL 13 ev_IAE ∈ lw_tbl := List.mem_of_getElem? (i := 354) (by rfl)
set_option maxRecDepth 100000 in
theorem kh_ISE : Cond.classLink RL 22 ev_ISE ∈ lw_tbl := List.mem_of_getElem? (i := 613) (by rfl)
set_option maxRecDepth 100000 in
theorem kh_cA : Cond.castable ev_IAE ev_IAE ∈ lw_tbl := List.mem_of_getElem? (i := 367) (by rfl)
set_option maxRecDepth 100000 in
theorem kh_cS : Cond.castable ev_ISE ev_ISE ∈ lw_tbl := List.mem_of_getElem? (i := 620) (by rfl)
set_option maxRecDepth 100000 in
theorem kh_L : Cond.initialized RL ∈ lw_tbl := List.mem_of_getElem? (i := 57) (by rfl)
set_option maxRecDepth 100000 in
theorem kh_6 : Cond.initialized RX6 ∈ lw_tbl := List.mem_of_getElem? (i := 58) (by rfl)
/-- what the tables say of a helper: its call from the law (kL), its own call (k6, the method m6) -/
def ev_Hw (kL k6 : Nat) (md : ev_Md) (hh : List (Nat × Nat × Nat × Nat)) (m6 : Nat) : Prop :=
  Cond.methodLink RL kL md.1 ∈ lw_tbl ∧ Cond.static md.1 ∈ lw_tbl ∧ Cond.codeWith md.1 md.2.1 md.2.2.1 md.2.2.2.1 hh ∈ lw_tbl ∧ plainName md.1.cls = true ∧ md.1.cls ≠ "java/lang/invoke/MethodHandle" ∧ md.1.cls ≠ "java/lang/invoke/VarHandle" ∧ (parseMethodDescriptor md.1.desc).map (fun d => d.parameters.length) = some md.2.2.2.2.2.1 ∧ md.2.2.1 ≤ 17 ∧ md.1.cls = RL ∧
  ∃ md6 code6, ev_ms[m6]? = some (md6, code6) ∧ Cond.methodLink RL k6 md6.1 ∈ lw_tbl ∧ Cond.instanceMethod md6.1 ∈ lw_tbl ∧ Cond.selects md6.1.cls md6.1 md6.1 ∈ lw_tbl ∧ md6.1.cls = RX6 ∧ md6.2.2.2.2.1 = 6
/-- a helper's contract, at one start -/
def ev_Mh (l : Launch) (D : va_G) (cy : Nat → ClassId) (z0 d : Nat) (md : ev_Md) (hh : List (Nat × Nat × Nat × Nat)) (as : List Value) (f : ev_H) (n : Nat) (Post : ev_P) : Prop :=
  vx_Met l md.1 (Cond.codeWith md.1 md.2.1 md.2.2.1 md.2.2.2.1 hh :: ev_gw) (ev_rm d md) (va_Pc as (ev_GX D cy z0 f n)) (ev_Qc D cy z0 Post) (fun _ _ _ => False) md.2.2.2.2.2.2.2.1 md.2.2.2.2.2.2.2.2 (fun q => z0 ≤ q)
/-- the call of a helper: it returns or throws -/
def ev_spH (l : Launch) (D : va_G) (cy : Nat → ClassId) (z0 d k6 m6 mc ms : Nat) (hh : List (Nat × Nat × Nat × Nat)) (code : List ev_I) (g : ev_F) (Y : ev_F → Prop) : Prop := match g with
  | (pc, L, st, f, n, c, sl) => ev_is code pc (.invokevirtual k6) ∧ ∃ (md6 : ev_Md) (code6 : List ev_I) (q : Nat) (As r : List Value) (Post : ev_P) (PX : String → ev_H → Nat → Prop), ev_ms[m6]? = some (md6, code6) ∧ st = As.reverse ++ .ref q :: r ∧ As.length = md6.2.2.2.2.2.1 ∧ (r.map fun v => v.category).sum ≤ 8 ∧ c + md6.2.2.2.2.2.2.2.1 ≤ mc ∧ sl + md6.2.2.2.2.2.2.2.2 ≤ ms ∧ (ev_ob (f q) 7 fun _ => True) ∧ ev_Mx l D cy z0 d md6 (.ref q :: As) f n Post PX ∧ (∀ v f' n', Post v f' n' → Y (pc + 3, L, v.toList ++ r, f', n', c + md6.2.2.2.2.2.2.2.1, sl + md6.2.2.2.2.2.2.2.2)) ∧ (∀ E f' n', PX E f' n' → ∃ h, ev_cat hh pc E h ∧ ∀ b, Y (h, L, [.ref b], f', n', c + md6.2.2.2.2.2.2.2.1, sl + md6.2.2.2.2.2.2.2.2))
section SPH
variable {p : Program} {l : Launch} {e : Env} {R : Room} {s : State} {m : MethodId} {args : Array Value} {below : List Frame} {meth : Method} {cd : Code} {Q : State → Prop}
variable {D : va_G} {cy : Nat → ClassId} {z0 nl mc ms d : Nat} {bytes : ByteArray}
theorem ev_spH_sound {code : List ev_I} {kL k6 m6 : Nat} {md : ev_Md} {hh : List (Nat × Nat × Nat × Nat)} (C0 : ev_C p s m args meth cd D cy z0 15 0 nl bytes) (hx : ev_xw s) (hok : code.all (ev_okb 15 0 bytes) = true) (htab : cd.exceptionTable.toList = tableOf hh) (hw : ev_Hw kL k6 md hh m6) (hR : d + 1 ≤ R.frames ∧ 36 * d + 36 ≤ R.locals) (hRc : mc ≤ R.cells) (hRs : ms ≤ R.slots) {g : ev_F} {Y : ev_F → Prop} (hY : ∀ h, Y h → ev_W p l e R s m args below meth cd D cy z0 nl mc ms Q h) (h : ev_spH l D cy z0 d k6 m6 mc ms hh code g Y) : ev_W p l e R s m args below meth cd D cy z0 nl mc ms Q g := by
  obtain ⟨pc, L, st, f, n, c, sl⟩ := g
  obtain ⟨hi, md6, code6, q, As, r, Post, PX, hm6, rfl, hlen, hsum, hcc, hss, hob, hM, hret, hthr⟩ := h
  obtain ⟨len, hd, hl3⟩ := hi.dec hok
  have e3 : len = 3 := by simpa [ev_lenb] using hl3
  subst e3
  obtain ⟨-, -, -, -, -, -, -, -, -, md6', code6', hm6', w1, w2, w3, hcls, hoc⟩ := hw
  cases hm6'.symm.trans hm6
  have hmem : (md6, code6) ∈ ev_ms := List.mem_of_getElem? hm6
  obtain ⟨hxe, hb, hml, hown, hts, hnw, hK, hz, hin, hst0⟩ := id C0
  intro H ls locs hJ hl hc1 hcm hsm
  obtain ⟨fs, hfq, -⟩ := ev_ob_s hob
  obtain ⟨cC, hcC, -⟩ := id (hJ.2.1.s hfq)
  have hnm : cC.1 = md6.1.cls := by rw [hcls]; exact ev_co_n (oc := 6) hcC
  have run := vx_runV (locs := locs) (meth := meth) (cells := c) (slots := sl) (C := md6.1.cls) (b := q) (As := As) (rest := r) (g := F0 m pc ls (As.reverse ++ .ref q :: r)) (below := below) (e := e) ⟨hxe, hb, hml, hown, hts⟩ hM ⟨es_cb (oc := 15) hts hmem (by rw [hcls]; exact kh_6) w1 hR, hts _ (ev_gw_in w2 rfl), hts _ (ev_gw_in w3 rfl)⟩ ⟨ev_blindX, by rw [← hnm]; exact va_recv hK (mh_one hJ.2.1 hfq) hcC (q0 := 0) rfl, fun U hU hW => ⟨rfl, (es_pre C0 hJ (.ref q :: As) U hU hW).2, hx.moved hW.alike⟩⟩ rfl hlen hl.1 rfl (lv_room hsum) hd ⟨Nat.le_trans hcc hRc, Nat.le_trans hss hRs⟩
  have hS := hJ.2.2.2.2
  intro T hT X
  rcases run T hT X with ⟨v, st₀, t, T', L', h0, X', hL, e1, e2, ⟨v', f', n', hv, hp, hG, hF⟩, stp⟩ | ⟨q9, st₀, t, T', L', E, ce, h0, X', hL, e1, e2, ⟨f', n', hpx, hn', hP', hd', hT', hF⟩, hce, hcv, hcl, stp⟩
  · cases hv
    obtain ⟨-, -, k3⟩ := vx_keep h0 e1 hS (fun _ _ z => z) (fun _ z => z) hL hF
    obtain ⟨g1, g2, g3, g4, -⟩ := hG
    obtain ⟨t2, a1, b1⟩ := hY _ (hret v f' n' hp) T'.heap ls (locs ++ L') ⟨by rw [e1]; exact g1, by rw [e1]; exact g2, g3, g4, k3⟩ hl hc1 hcc hss T' rfl X'
    exact ⟨t2, stp t2 a1, b1⟩
  · obtain ⟨-, -, k3⟩ := vx_keep h0 e1 hS (fun _ _ z => z) (fun _ z => z) hL hF
    obtain ⟨hnd, hcat, hy⟩ := hthr E f' n' hpx
    have hJ1 : ev_J D cy z0 s.heap f' n' T'.heap (locs ++ L') := ⟨by rw [e1]; exact hn', by rw [e1]; exact hP', hd', hT', k3⟩
    rcases hcat with ⟨rfl, s0, e0, r0, rfl, h1, h2⟩ | ⟨rfl, s0, e0, h10, s2, e2', r0, rfl, h1, h2⟩
    · obtain ⟨t2, a1, b1⟩ := vx_catch (E := ev_IAE) (name := ev_IAE) (pc := pc) (rest := r) hown [] ⟨s0, e0, hnd, 13⟩ (tableOf r0) (by rw [htab]; rfl) (fun z hz => by cases hz) (by show (decide (s0 ≤ pc) && decide (pc < e0)) = true; rw [decide_eq_true h1, decide_eq_true h2]; rfl) (by show (13 : Nat) ≠ 0; decide) (hts _ (ev_gw_in kh_IAE rfl)) (va_Nw.use rfl (hnw _ (ev_nw_in kh_cA rfl))) (by rw [e1]; exact hce) hcv hcl (hY _ (hy q9) T'.heap ls (locs ++ L') hJ1 hl hc1 hcc hss) T' rfl X'
      exact ⟨t2, stp.trans a1, b1⟩
    · obtain ⟨t2, a1, b1⟩ := vx_catch (E := ev_ISE) (name := ev_ISE) (pc := pc) (rest := r) hown [⟨s0, e0, h10, 13⟩] ⟨s2, e2', hnd, 22⟩ (tableOf r0) (by rw [htab]; rfl) (fun z hz => by
          obtain rfl := List.mem_singleton.mp hz
          exact Or.inr ⟨by show (13 : Nat) ≠ 0; decide, ev_IAE, hts _ (ev_gw_in kh_IAE rfl), hx.2⟩) (by show (decide (s2 ≤ pc) && decide (pc < e2')) = true; rw [decide_eq_true h1, decide_eq_true h2]; rfl) (by show (22 : Nat) ≠ 0; decide) (hts _ (ev_gw_in kh_ISE rfl)) (va_Nw.use rfl (hnw _ (ev_nw_in kh_cS rfl))) (by rw [e1]; exact hce) hcv hcl (hY _ (hy q9) T'.heap ls (locs ++ L') hJ1 hl hc1 hcc hss) T' rfl X'
      exact ⟨t2, stp.trans a1, b1⟩
end SPH
def ev_noc : Nat → List Value → ev_H → Nat → ev_P → Prop := fun _ _ _ _ _ => False
/-- a helper by its own body -/
theorem ev_Mh_own {l : Launch} {D : va_G} {cy : Nat → ClassId} {z0 d kL k6 m6 : Nat} {as : List Value} {f : ev_H} {n : Nat} {Post : ev_P} {y : MethodName} {bytes : ByteArray} {nl na mc ms : Nat} {rt : Option FieldType} {hh : List (Nat × Nat × Nat × Nat)} {code : List ev_I} (hok : code.all (ev_okb 15 0 bytes) = true) (hw : ev_Hw kL k6 (y, bytes, nl, rt, 15, na, 0, mc, ms) hh m6) (hca : (as.all (fun v => v.category == 1) && decide (as.length ≤ nl)) = true)
    (hR : ev_R cy ev_noc (ev_spH l D cy z0 d k6 m6 mc ms hh code) 15 mc ms nl rt code Post (0, lv_args 0 as, [], f, n, 0, 0)) : ev_Mh l D cy z0 (d + 1) (y, bytes, nl, rt, 15, na, 0, mc, ms) hh as f n Post := by
  rw [Bool.and_eq_true] at hca
  have hcat : ∀ v ∈ as, v.category = 1 := fun v hv => eq_of_beq (List.all_eq_true.mp hca.1 v hv)
  have hln : as.length ≤ nl := of_decide_eq_true hca.2
  obtain ⟨-, -, -, g1, -, -, -, -, g6, -⟩ := id hw
  refine vx_ofWH (cc := bytes) (maxL := nl) (ret := rt) (hh := hh) g1 rfl ?_
  intro p e s mm args below meth c s₁ B hml hv
  obtain ⟨rfl, ⟨hn, hP, hdom, hT, hz, hK, hnw, hst0⟩, hxw⟩ := hv
  have hts0 := atoms_spec (ws := Cond.codeWith y bytes nl rt hh :: ev_gw) B.pre
  have hts : ∀ w ∈ ev_gw, w.before as.toArray s = true := fun w hw => hts0 w (List.mem_cons_of_mem _ hw)
  have htab := vx_table (x := y) B (hts0 _ List.mem_cons_self)
  have hown : s.vm.findClass (ev_on 15) = some mm.cls := by
    have := findClass_of_methodNamed B.named
    rw [show y.cls = ev_on 15 from g6] at this
    exact this
  have C0 : ev_C p s mm as.toArray meth c D cy z0 15 0 nl bytes := ⟨B.exec, B.bytes, hml, hown, hts, hnw, hK, by rw [hn]; exact hz, fun hk => absurd hk (by decide), hst0⟩
  have hl := lv_entry as (n := nl) (by rw [ev_sl_len hcat]; exact hln)
  rw [lg_entry_eq]
  have hW : ev_W p l e (ev_rm (d + 1) (y, bytes, nl, rt, 15, na, 0, mc, ms)) s mm as.toArray below meth c D cy z0 nl mc ms (vx_MQ below (ev_Qc D cy z0 Post) (fun _ _ _ => False) as.toArray s mc ms (fun q => z0 ≤ q)) (0, lv_args 0 as, [], f, n, 0, 0) :=
    hR _ (fun g' Y hY hs => ev_step_sound (d := d) C0 hok (fun _ _ _ _ _ _ _ z => z.elim) ⟨Nat.le_refl _, Nat.le_refl _⟩ (Nat.le_refl _) (Nat.le_refl _) (fun v f n H ls locs pc c sl i a1 a2 a3 a4 a5 a6 => vx_ret (ev_Rt_M C0 B.returns B.notSynchronized v f n H ls locs pc c sl i a1 a2 a3 a4 a5 a6)) (fun g Y hY h => ev_spH_sound C0 hxw hok htab hw ⟨Nat.le_refl _, Nat.le_refl _⟩ (Nat.le_refl _) (Nat.le_refl _) hY h) hY hs)
  exact hW s.heap _ [] ⟨hn, hP, hdom, hT, va_S.rf⟩ hl (fun q hq => hcat _ (ev_args_m hq)) (Nat.zero_le _) (Nat.zero_le _)
/-- the law's own: the script at the cell b, its length, a helper -/
def ev_spL (l : Launch) (D : va_G) (cy : Nat → ClassId) (z0 d b Lx : Nat) (xs : Nat → Int32) (mc ms : Nat) (code : List ev_I) (g : ev_F) (Y : ev_F → Prop) : Prop := match g with
  | (pc, L, st, f, n, c, sl) => (ev_is code pc .iaload ∧ ∃ u r, st = .int u :: .ref b :: r ∧ vp_in u Lx ∧ Y (pc + 1, L, .int (xs u.toNatClampNeg) :: r, f, n, c, sl)) ∨
    (ev_is code pc .arraylength ∧ ∃ r, st = .ref b :: r ∧ Y (pc + 1, L, .int (Int32.ofNat Lx) :: r, f, n, c, sl)) ∨
    (∃ (kL k6 m6 : Nat) (md : ev_Md) (hh : List (Nat × Nat × Nat × Nat)) (As r : List Value) (Post : ev_P), ev_is code pc (.invokestatic kL) ∧ ev_Hw kL k6 md hh m6 ∧ st = As.reverse ++ r ∧ As.length = md.2.2.2.2.2.1 ∧ (r.map fun v => v.category).sum ≤ 8 ∧ c + md.2.2.2.2.2.2.2.1 ≤ mc ∧ sl + md.2.2.2.2.2.2.2.2 ≤ ms ∧ ev_Mh l D cy z0 d md hh As f n Post ∧ ∀ v f' n', Post v f' n' → Y (pc + 3, L, v.toList ++ r, f', n', c + md.2.2.2.2.2.2.2.1, sl + md.2.2.2.2.2.2.2.2))
section SPL
variable {p : Program} {l : Launch} {e : Env} {R : Room} {s : State} {m : MethodId} {args : Array Value} {below : List Frame} {meth : Method} {cd : Code} {Q : State → Prop}
variable {D : va_G} {cy : Nat → ClassId} {z0 nl mc ms d : Nat} {bytes : ByteArray}
theorem ev_goodH {kL k6 m6 : Nat} {md : ev_Md} {hh : List (Nat × Nat × Nat × Nat)} (hw : ev_Hw kL k6 md hh m6) : GoodIn ev_gw (Cond.codeWith md.1 md.2.1 md.2.2.1 md.2.2.2.1 hh :: ev_gw) := by
  intro w h
  rcases List.mem_cons.mp h with rfl | h
  · exact ⟨ev_gw_in hw.2.2.1 rfl, Or.inl rfl⟩
  · exact ⟨h, good_of_word (List.mem_filter.mp h).2⟩
theorem ev_spL_sound {code : List ev_I} {b Lx : Nat} {xs : Nat → Int32} (C0 : ev_C p s m args meth cd D cy z0 15 0 nl bytes) (hx : ev_xw s) (hok : code.all (ev_okb 15 0 bytes) = true) (hX : va_X b Lx xs s s.heap) (hbl : b < s.heap.size) (hbz : ¬ z0 ≤ b) (hR : d + 1 ≤ R.frames ∧ 36 * d + 36 ≤ R.locals) (hRc : mc ≤ R.cells) (hRs : ms ≤ R.slots) {g : ev_F} {Y : ev_F → Prop} (hY : ∀ h, Y h → ev_W p l e R s m args below meth cd D cy z0 nl mc ms Q h) (h : ev_spL l D cy z0 d b Lx xs mc ms code g Y) : ev_W p l e R s m args below meth cd D cy z0 nl mc ms Q g := by
  obtain ⟨pc, L, st, f, n, c, sl⟩ := g
  obtain ⟨hxe, hb, hml, hown, hts, hnw, hK, hz, hin, hst0⟩ := id C0
  intro H ls locs hJ hl hc1 hcm hsm
  have hS := hJ.2.2.2.2
  rcases h with ⟨hi, u, r, rfl, hu, hy⟩ | ⟨hi, r, rfl, hy⟩ | ⟨kL, k6, m6, md, hh, As, r, Post, hi, hw, rfl, hlen, hsum, hcc, hss, hM, hret⟩
  · obtain ⟨len, hd, hl1⟩ := hi.dec hok
    have e1 : len = 1 := by simpa [ev_lenb] using hl1
    subst e1
    exact va_sld hxe hb hX hbl hbz hS hu hd (hY _ hy H ls locs hJ hl hc1 hcm hsm)
  · obtain ⟨len, hd, hl1⟩ := hi.dec hok
    have e1 : len = 1 := by simpa [ev_lenb] using hl1
    subst e1
    exact va_slen hxe hb hX hbl hbz hS hd (hY _ hy H ls locs hJ hl hc1 hcm hsm)
  · obtain ⟨len, hd, hl3⟩ := hi.dec hok
    have e3 : len = 3 := by simpa [ev_lenb] using hl3
    subst e3
    have hG := ev_goodH hw
    obtain ⟨w1, w2, w3, g1, g2, g3, g4, g5, g6, -⟩ := hw
    have run := vx_runSX (meth := meth) (cells := c) (slots := sl) (As := As) (rest := r) (g := F0 m pc ls (As.reverse ++ r)) (below := below) (e := e) (hh := hh) (bytes := md.2.1) (maxL := md.2.2.1) (ret := md.2.2.2.1) (own := ev_on 15) (H := H) (locs := locs) ⟨hxe, hb, hml, hown, hts⟩ hM ⟨⟨rfl, rfl, hR.1, by show 8 + (md.2.2.1 + 11) + 36 * d ≤ R.locals; omega, pay_in hts hG, List.mem_cons_self⟩, hts _ (ev_gw_in w3 rfl), hts _ (ev_gw_in (by rw [g6]; exact kh_L) rfl), ⟨g2, g3⟩, fun sig h => by
        rw [h] at g4
        exact (Option.some.inj g4).symm, hts _ (ev_gw_in w1 rfl), hts _ (ev_gw_in w2 rfl)⟩ ⟨ev_blindX, fun U hU hW => ⟨rfl, (es_pre C0 hJ As U hU hW).2, hx.moved hW.alike⟩⟩ rfl hlen hl.1 rfl (lv_room hsum) hd ⟨Nat.le_trans hcc hRc, Nat.le_trans hss hRs⟩
    intro T hT X
    rcases run T hT X with ⟨v, st₀, t, T', L', h0, X', hL, e1, e2, ⟨v', f', n', hv, hp, hG, hF⟩, stp⟩ | ⟨q9, st₀, t, T', L', E, ce, h0, X', hL, e1, e2, hff, hce, hcv, hcl, stp⟩
    · cases hv
      obtain ⟨-, -, k3⟩ := vx_keep h0 e1 hS (fun _ _ z => z) (fun _ z => z) hL hF
      obtain ⟨g1, g2, g3, g4, -⟩ := hG
      obtain ⟨t2, a1, b1⟩ := hY _ (hret v f' n' hp) T'.heap ls (locs ++ L') ⟨by rw [e1]; exact g1, by rw [e1]; exact g2, g3, g4, k3⟩ hl hc1 hcc hss T' rfl X'
      exact ⟨t2, stp t2 a1, b1⟩
    · exact hff.elim
end SPL
abbrev hh_service : List (Nat × Nat × Nat × Nat) := [(0, 11, 14, 13)]
abbrev md_L_service : ev_Md := (yL_service, cL_service, 7, some .int, 15, 6, 0, 4, 740)
set_option maxRecDepth 100000 in
theorem kw_L_service : ev_Hw 60 7 md_L_service hh_service m_X6_service := ⟨List.mem_of_getElem? (i := 351) (by rfl), List.mem_of_getElem? (i := 352) (by rfl), List.mem_of_getElem? (i := 353) (by rfl), by decide +kernel, by decide +kernel, by decide +kernel, by decide +kernel, by decide, rfl, _, _, rfl, List.mem_of_getElem? (i := 355) (by rfl), List.mem_of_getElem? (i := 356) (by rfl), List.mem_of_getElem? (i := 357) (by rfl), rfl, rfl⟩
abbrev hh_connect : List (Nat × Nat × Nat × Nat) := [(0, 16, 19, 13)]
abbrev md_L_connect : ev_Md := (yL_connect, cL_connect, 8, some .int, 15, 7, 0, 4, 740)
set_option maxRecDepth 100000 in
theorem kw_L_connect : ev_Hw 70 15 md_L_connect hh_connect m_X6_connect := ⟨List.mem_of_getElem? (i := 431) (by rfl), List.mem_of_getElem? (i := 432) (by rfl), List.mem_of_getElem? (i := 433) (by rfl), by decide +kernel, by decide +kernel, by decide +kernel, by decide +kernel, by decide, rfl, _, _, rfl, List.mem_of_getElem? (i := 434) (by rfl), List.mem_of_getElem? (i := 435) (by rfl), List.mem_of_getElem? (i := 436) (by rfl), rfl, rfl⟩
abbrev hh_feed : List (Nat × Nat × Nat × Nat) := [(0, 16, 19, 13), (0, 16, 23, 22)]
abbrev md_L_feed : ev_Md := (yL_feed, cL_feed, 8, some .int, 15, 7, 0, 4, 740)
set_option maxRecDepth 100000 in
theorem kw_L_feed : ev_Hw 74 19 md_L_feed hh_feed m_X6_feed := ⟨List.mem_of_getElem? (i := 610) (by rfl), List.mem_of_getElem? (i := 611) (by rfl), List.mem_of_getElem? (i := 612) (by rfl), by decide +kernel, by decide +kernel, by decide +kernel, by decide +kernel, by decide, rfl, _, _, rfl, List.mem_of_getElem? (i := 614) (by rfl), List.mem_of_getElem? (i := 615) (by rfl), List.mem_of_getElem? (i := 616) (by rfl), rfl, rfl⟩
abbrev hh_send : List (Nat × Nat × Nat × Nat) := [(0, 10, 13, 13), (0, 10, 17, 22)]
abbrev md_L_send : ev_Md := (yL_send, cL_send, 5, some .int, 15, 4, 0, 4, 740)
set_option maxRecDepth 100000 in
theorem kw_L_send : ev_Hw 81 24 md_L_send hh_send m_X6_send := ⟨List.mem_of_getElem? (i := 634) (by rfl), List.mem_of_getElem? (i := 635) (by rfl), List.mem_of_getElem? (i := 636) (by rfl), by decide +kernel, by decide +kernel, by decide +kernel, by decide +kernel, by decide, rfl, _, _, rfl, List.mem_of_getElem? (i := 637) (by rfl), List.mem_of_getElem? (i := 638) (by rfl), List.mem_of_getElem? (i := 639) (by rfl), rfl, rfl⟩
abbrev hh_grant : List (Nat × Nat × Nat × Nat) := [(0, 12, 15, 13), (0, 12, 19, 22)]
abbrev md_L_grant : ev_Md := (yL_grant, cL_grant, 6, some .int, 15, 5, 0, 4, 740)
set_option maxRecDepth 100000 in
theorem kw_L_grant : ev_Hw 85 28 md_L_grant hh_grant m_X6_grant := ⟨List.mem_of_getElem? (i := 653) (by rfl), List.mem_of_getElem? (i := 654) (by rfl), List.mem_of_getElem? (i := 655) (by rfl), by decide +kernel, by decide +kernel, by decide +kernel, by decide +kernel, by decide, rfl, _, _, rfl, List.mem_of_getElem? (i := 656) (by rfl), List.mem_of_getElem? (i := 657) (by rfl), List.mem_of_getElem? (i := 658) (by rfl), rfl, rfl⟩
abbrev hh_leave : List (Nat × Nat × Nat × Nat) := [(0, 6, 9, 13), (0, 6, 12, 22)]
abbrev md_L_leave : ev_Md := (yL_leave, cL_leave, 4, some .int, 15, 3, 0, 4, 740)
set_option maxRecDepth 100000 in
theorem kw_L_leave : ev_Hw 89 32 md_L_leave hh_leave m_X6_leave := ⟨List.mem_of_getElem? (i := 665) (by rfl), List.mem_of_getElem? (i := 666) (by rfl), List.mem_of_getElem? (i := 667) (by rfl), by decide +kernel, by decide +kernel, by decide +kernel, by decide +kernel, by decide, rfl, _, _, rfl, List.mem_of_getElem? (i := 668) (by rfl), List.mem_of_getElem? (i := 669) (by rfl), List.mem_of_getElem? (i := 670) (by rfl), rfl, rfl⟩
abbrev hh_take : List (Nat × Nat × Nat × Nat) := [(0, 9, 12, 13)]
abbrev md_L_take : ev_Md := (yL_take, cL_take, 4, some .int, 15, 3, 0, 4, 740)
set_option maxRecDepth 100000 in
theorem kw_L_take : ev_Hw 93 36 md_L_take hh_take m_X6_take := ⟨List.mem_of_getElem? (i := 681) (by rfl), List.mem_of_getElem? (i := 682) (by rfl), List.mem_of_getElem? (i := 683) (by rfl), by decide +kernel, by decide +kernel, by decide +kernel, by decide +kernel, by decide, rfl, _, _, rfl, List.mem_of_getElem? (i := 684) (by rfl), List.mem_of_getElem? (i := 685) (by rfl), List.mem_of_getElem? (i := 686) (by rfl), rfl, rfl⟩
abbrev hh_lose : List (Nat × Nat × Nat × Nat) := [(0, 16, 19, 13)]
abbrev md_L_lose : ev_Md := (yL_lose, cL_lose, 4, some .int, 15, 3, 0, 4, 740)
set_option maxRecDepth 100000 in
theorem kw_L_lose : ev_Hw 97 40 md_L_lose hh_lose m_X6_lose := ⟨List.mem_of_getElem? (i := 792) (by rfl), List.mem_of_getElem? (i := 793) (by rfl), List.mem_of_getElem? (i := 794) (by rfl), by decide +kernel, by decide +kernel, by decide +kernel, by decide +kernel, by decide, rfl, _, _, rfl, List.mem_of_getElem? (i := 795) (by rfl), List.mem_of_getElem? (i := 796) (by rfl), List.mem_of_getElem? (i := 797) (by rfl), rfl, rfl⟩
abbrev hh_inject : List (Nat × Nat × Nat × Nat) := [(0, 12, 15, 13)]
abbrev md_L_inject : ev_Md := (yL_inject, cL_inject, 6, some .int, 15, 5, 0, 4, 740)
set_option maxRecDepth 100000 in
theorem kw_L_inject : ev_Hw 100 44 md_L_inject hh_inject m_X6_inject := ⟨List.mem_of_getElem? (i := 799) (by rfl), List.mem_of_getElem? (i := 800) (by rfl), List.mem_of_getElem? (i := 801) (by rfl), by decide +kernel, by decide +kernel, by decide +kernel, by decide +kernel, by decide, rfl, _, _, rfl, List.mem_of_getElem? (i := 802) (by rfl), List.mem_of_getElem? (i := 803) (by rfl), List.mem_of_getElem? (i := 804) (by rfl), rfl, rfl⟩
abbrev hh_receive : List (Nat × Nat × Nat × Nat) := [(0, 10, 13, 13)]
abbrev md_L_receive : ev_Md := (yL_receive, cL_receive, 5, some .int, 15, 4, 0, 4, 740)
set_option maxRecDepth 100000 in
theorem kw_L_receive : ev_Hw 103 47 md_L_receive hh_receive m_X6_receive := ⟨List.mem_of_getElem? (i := 810) (by rfl), List.mem_of_getElem? (i := 811) (by rfl), List.mem_of_getElem? (i := 812) (by rfl), by decide +kernel, by decide +kernel, by decide +kernel, by decide +kernel, by decide, rfl, _, _, rfl, List.mem_of_getElem? (i := 813) (by rfl), List.mem_of_getElem? (i := 814) (by rfl), List.mem_of_getElem? (i := 815) (by rfl), rfl, rfl⟩
abbrev hh_channel : List (Nat × Nat × Nat × Nat) := [(0, 12, 15, 13)]
abbrev md_L_channel : ev_Md := (yL_channel, cL_channel, 6, some .int, 15, 5, 0, 4, 740)
set_option maxRecDepth 100000 in
theorem kw_L_channel : ev_Hw 110 50 md_L_channel hh_channel m_X6_channel := ⟨List.mem_of_getElem? (i := 819) (by rfl), List.mem_of_getElem? (i := 820) (by rfl), List.mem_of_getElem? (i := 821) (by rfl), by decide +kernel, by decide +kernel, by decide +kernel, by decide +kernel, by decide, rfl, _, _, rfl, List.mem_of_getElem? (i := 822) (by rfl), List.mem_of_getElem? (i := 823) (by rfl), List.mem_of_getElem? (i := 824) (by rfl), rfl, rfl⟩
abbrev hh_count : List (Nat × Nat × Nat × Nat) := [(0, 10, 13, 13)]
abbrev md_L_count : ev_Md := (yL_count, cL_count, 5, some .int, 15, 4, 0, 4, 740)
set_option maxRecDepth 100000 in
theorem kw_L_count : ev_Hw 113 53 md_L_count hh_count m_X6_count := ⟨List.mem_of_getElem? (i := 826) (by rfl), List.mem_of_getElem? (i := 827) (by rfl), List.mem_of_getElem? (i := 828) (by rfl), by decide +kernel, by decide +kernel, by decide +kernel, by decide +kernel, by decide, rfl, _, _, rfl, List.mem_of_getElem? (i := 829) (by rfl), List.mem_of_getElem? (i := 830) (by rfl), List.mem_of_getElem? (i := 831) (by rfl), rfl, rfl⟩
