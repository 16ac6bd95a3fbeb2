/-! THE LIST'S OWN CODE: getstatic, if_acmp, a class constant, getClass, arraycopy, by a hook -/
set_option maxRecDepth 100000 in
theorem ka_gs : Cond.fieldLink RJx4a65c 39 "java/util/ArrayList" "DEFAULTCAPACITY_EMPTY_ELEMENTDATA" "[Ljava/lang/Object;" ∈ lw_tbl := List.mem_of_getElem? (i := 257) (by rfl)
set_option maxRecDepth 100000 in
theorem ka_cl : Cond.classLink RJ7 110 "[Ljava/lang/Object;" ∈ lw_tbl := List.mem_of_getElem? (i := 521) (by rfl)
set_option maxRecDepth 100000 in
theorem ka_gc : Cond.methodLink RJ7 86 ⟨"java/lang/Object", "getClass", "()Ljava/lang/Class;"⟩ ∈ lw_tbl := List.mem_of_getElem? (i := 503) (by rfl)
set_option maxRecDepth 100000 in
theorem ka_gi : Cond.instanceMethod ⟨"java/lang/Object", "getClass", "()Ljava/lang/Class;"⟩ ∈ lw_tbl := List.mem_of_getElem? (i := 504) (by rfl)
set_option maxRecDepth 100000 in
theorem ka_gn : Cond.native ⟨"java/lang/Object", "getClass", "()Ljava/lang/Class;"⟩ ∈ lw_tbl := List.mem_of_getElem? (i := 517) (by rfl)
set_option maxRecDepth 100000 in
theorem ka_ge : Cond.selects "[Ljava/lang/Object;" ⟨"java/lang/Object", "getClass", "()Ljava/lang/Class;"⟩ ⟨"java/lang/Object", "getClass", "()Ljava/lang/Class;"⟩ ∈ lw_tbl := List.mem_of_getElem? (i := 1196) (by rfl)
set_option maxRecDepth 100000 in
theorem ka_c1 : Cond.methodLink RJ7 150 arraycopyName ∈ lw_tbl := List.mem_of_getElem? (i := 527) (by rfl)
set_option maxRecDepth 100000 in
theorem ka_c2 : Cond.methodLink RJx4a65c 112 arraycopyName ∈ lw_tbl := List.mem_of_getElem? (i := 574) (by rfl)
set_option maxRecDepth 100000 in
theorem ka_cs : Cond.static arraycopyName ∈ lw_tbl := List.mem_of_getElem? (i := 528) (by rfl)
set_option maxRecDepth 100000 in
theorem ka_cn : Cond.native arraycopyName ∈ lw_tbl := List.mem_of_getElem? (i := 529) (by rfl)
set_option maxRecDepth 100000 in
theorem ka_ci : Cond.initialized "java/lang/System" ∈ lw_tbl := List.mem_of_getElem? (i := 76) (by rfl)
def ev_spA (cy : Nat → ClassId) (z0 a0 mi oc : Nat) (code : List ev_I) (g : ev_F) (Y : ev_F → Prop) : Prop := match g with
  | (pc, L, st, f, n, c, sl) => match ev_at code pc with
    | none => False
    | some (_, i, _, a, _, _) => match i with
      | .getstatic k => oc = 8 ∧ k = 39 ∧ Y (pc + 3, L, .ref a0 :: st, f, n, c, sl)
      | .if_acmp .eq k => (pc : Int) + k = (a : Int) ∧ ev_q st fun v r => ev_q r fun u r => ev_br (u = v) (Y (a, L, r, f, n, c, sl)) (Y (pc + 3, L, r, f, n, c, sl))
      | .if_acmp .ne k => (pc : Int) + k = (a : Int) ∧ ev_q st fun v r => ev_q r fun u r => ev_br (u = v) (Y (pc + 3, L, r, f, n, c, sl)) (Y (a, L, r, f, n, c, sl))
      | .ldc k => oc = 13 ∧ k = 110 ∧ Y (pc + 2, L, .ref mi :: st, f, n, c, sl)
      | .invokevirtual k => oc = 13 ∧ k = 86 ∧ ev_r st fun q r => (r.map fun v => v.category).sum ≤ 8 ∧ (∃ z g, z ≠ 0 ∧ f q = some (.inl (cy 8, z, .inr (.inr (.inr (.inr g)))))) ∧ Y (pc + 3, L, .ref mi :: r, f, n, c, sl)
      | .invokestatic k => ((oc = 13 ∧ k = 150) ∨ (oc = 8 ∧ k = 112)) ∧ ev_i st fun t r => ev_i r fun dp r => ev_r r fun q r => ev_i r fun sp r => ev_r r fun q0 r => (r.map fun v => v.category).sum ≤ 8 ∧ ∃ (n0 n1 : Nat) (sf df : Nat → Option Nat), f q0 = some (.inl (cy 8, n0, .inr (.inr (.inr (.inr sf))))) ∧ f q = some (.inl (cy 8, n1, .inr (.inr (.inr (.inr df))))) ∧ (n0 ≠ 0 ∧ n1 ≠ 0) ∧ ¬ sp < 0 ∧ ¬ dp < 0 ∧ ¬ t < 0 ∧ sp.toNatClampNeg + t.toNatClampNeg ≤ n0 ∧ dp.toNatClampNeg + t.toNatClampNeg ≤ n1 ∧ (∀ i : Nat, i < t.toNatClampNeg → ∀ y : Nat, sf (sp.toNatClampNeg + i) = some y → ∃ fs, f y = some (.inr (4, fs))) ∧ Y (pc + 3, L, r, va_up f q (some (.inl (cy 8, n1, .inr (.inr (.inr (.inr (va_cpy sf df sp.toNatClampNeg dp.toNatClampNeg t.toNatClampNeg))))))), n, c, sl)
      | _ => False
section SPA
variable {p : Program} {l : Launch} {e : Env} {R : Room} {s : State} {m : MethodId} {args : Array Value} {below : List Frame} {meth : Method} {cd : Code} {Q : State → Prop}
variable {D : va_G} {cy : Nat → ClassId} {z0 oc kd nl mc ms d : Nat} {bytes : ByteArray} {H : Heap} {locs : List Loc} {ls : Array Slot} {rest : List Value} {pc n cells slots : Nat} {f : ev_H}
set_option maxHeartbeats 2000000 in
/-- arraycopy of references keeps the model heap: the target's cell is another one -/
theorem es_copy (C0 : ev_C p s m args meth cd D cy z0 oc kd nl bytes) (hJ : ev_J D cy z0 s.heap f n H locs) (hml : nl = ls.size) {own : String} {index a0 a n0 n1 : Nat} {sf df : Nat → Option Nat} {sp dp t : Int32}
    (hown : s.vm.findClass own = some m.cls) (hlink : (Cond.methodLink own index arraycopyName).before args s = true)
    (hs : f a0 = some (.inl (cy 8, n0, .inr (.inr (.inr (.inr sf)))))) (hd : f a = some (.inl (cy 8, n1, .inr (.inr (.inr (.inr df)))))) (hn : n0 ≠ 0 ∧ n1 ≠ 0) (hz : z0 ≤ a) (h1 : ¬ sp < 0) (h2 : ¬ dp < 0) (h3 : ¬ t < 0) (h4 : sp.toNatClampNeg + t.toNatClampNeg ≤ n0) (h5 : dp.toNatClampNeg + t.toNatClampNeg ≤ n1)
    (hel : ∀ i : Nat, i < t.toNatClampNeg → ∀ y : Nat, sf (sp.toNatClampNeg + i) = some y → ∃ fs, f y = some (.inr (4, fs)))
    (hR : 1 ≤ R.frames ∧ (rest.map fun v => v.category).sum + (nativeFrameWords "java/lang/System" "arraycopy" 5 + 11) ≤ R.locals) (hdg : decode bytes pc = .ok (.invokestatic index, 3))
    (kk : ∀ (H1 : Heap) (locs1 : List Loc), ev_J D cy z0 s.heap (va_up f a (some (.inl (cy 8, n1, .inr (.inr (.inr (.inr (va_cpy sf df sp.toNatClampNeg dp.toNatClampNeg t.toNatClampNeg)))))))) n H1 locs1 → W p l e R s m args below meth cd H1 locs1 cells slots Q (F0 m (pc + 3) ls rest)) : W p l e R s m args below meth cd H locs cells slots Q (F0 m pc ls (.int t :: .int dp :: .ref a :: .int sp :: .ref a0 :: rest)) := by
  obtain ⟨hx, hb, hml0, -, hts, hnw, hK, hz0, -, -⟩ := id C0
  have pos : ∀ w : Int32, ¬ w < 0 → w.toInt = (w.toNatClampNeg : Int) := fun w hw => by
    have : (0 : Int) ≤ w.toInt := Int32.le_iff_toInt_le.mp (Int32.not_lt.mp hw)
    show w.toInt = ((w.toInt.toNat : Nat) : Int)
    omega
  obtain ⟨q1, q2, q3, q4, q5⟩ := id hJ
  have c0 : H[a0]? = some (vp_cell (cy 8) (n0, .inr (.inr (.inr (.inr sf))))) := q2.s hs (mh_ns_q hn.1)
  have c1 : H[a]? = some (vp_cell (cy 8) (n1, .inr (.inr (.inr (.inr df))))) := q2.s hd (mh_ns_q hn.2)
  have ht8 : (ev_tyl cy)[8]? = some (cy 8, .object "java/lang/Object") := rfl
  obtain ⟨-, k0, hk0, cm0, hkk0⟩ := (hK.2 8 _ ht8).1 n0 (fun j => va_rf (sf j))
  obtain ⟨kA, comp, r1, r2, r3, -⟩ := (hK.2 8 _ ht8).2
  cases hk0.symm.trans r1
  cases hkk0.symm.trans r2
  obtain ⟨kE, hkE, -⟩ := Vm.findClass_spec r3
  have hRow : vwCl[4]? = some (RX3, TX3, 2) := rfl
  have hcls := (hK.1 4 _ hRow).2
  obtain ⟨kC, hkC, -⟩ := hcls.2
  obtain ⟨c3, c4, hc3, hc4, hasg⟩ := Cond.castable_spec (va_Nw.use (A := args) rfl (hnw _ (ev_nw_in ev_w_cro rfl)))
  have e3 : c3 = D.1 4 := Option.some.inj (hc3.symm.trans hcls.1)
  have e4 : c4 = cm0 := Option.some.inj (hc4.symm.trans r3)
  subst e3; subst e4
  intro T hT X
  obtain ⟨vm', X', step⟩ := X.arraycopy hx hown hlink (hts _ (ev_gw_in ka_cn rfl)) (hts _ (ev_gw_in ka_cs rfl)) (hts _ (ev_gw_in ka_ci rfl)) (src := a0) (dst := a) (cs := vp_cell (cy 8) (n0, .inr (.inr (.inr (.inr sf))))) (cd := vp_cell (cy 8) (n1, .inr (.inr (.inr (.inr df))))) (srcPos := sp) (destPos := dp) (n := t) (by rw [hT]; exact c0) (by rw [hT]; exact c1)
    (fun _ h => by cases h) (fun _ h => by cases h) (fun h => by cases h) (fun h => by cases h) hk0 hk0 hkk0 hkk0 rfl h1 h2 h3
    (by rw [pos sp h1, pos t h3]; show ¬ _ > ((arrV (cy 8) n0 (fun j => va_rf (sf j))).slots.size : Int); rw [arrV_size]; omega)
    (by rw [pos dp h2, pos t h3]; show ¬ _ > ((arrV (cy 8) n1 (fun j => va_rf (df j))).slots.size : Int); rw [arrV_size]; omega)
    (fun vm1 hal i hi => by
      have e : (vp_cell (cy 8) (n0, .inr (.inr (.inr (.inr sf))))).slots.getD (sp.toNatClampNeg + i) .null = va_rf (sf (sp.toNatClampNeg + i)) := by
        show (arrV (cy 8) n0 (fun j => va_rf (sf j))).slots.getD _ _ = _
        rw [Array.getD_eq_getD_getElem?, arrV_read _ _ (by omega)]
        rfl
      rw [e]
      cases hy : sf (sp.toNatClampNeg + i) with
      | none => exact ⟨rfl, trivial⟩
      | some y =>
        obtain ⟨fs, hfs⟩ := hel i hi y hy
        obtain ⟨r', hr', cellV, g1, g2, g3, -⟩ := q2.s hfs
        obtain ⟨kC', hkC', -⟩ := hal.2.2 _ _ hkC
        obtain ⟨kE', hkE', -⟩ := hal.2.2 _ _ hkE
        refine ⟨rfl, cellV, (show T.heap[y]? = some cellV by rw [hT]; exact g1), (fun q h => by rw [g3] at h; cases h), ⟨kC', by rw [g2]; exact hkC'⟩, ⟨kE', hkE'⟩, ?_⟩
        show vm1.assignable _ _ = true
        rw [hal.assignable, g2]
        exact hasg)
    (g := F0 m pc ls (.int t :: .int dp :: .ref a :: .int sp :: .ref a0 :: rest)) rfl (by rw [hml0]; exact hml.symm) (rest := rest) rfl (by rw [hb]; exact hdg) hR.1 (by show 2 * 0 + _ + _ ≤ _; omega)
  have ecp : copied (vp_cell (cy 8) (n0, .inr (.inr (.inr (.inr sf))))) (vp_cell (cy 8) (n1, .inr (.inr (.inr (.inr df))))) sp dp t = vp_cell (cy 8) (n1, .inr (.inr (.inr (.inr (va_cpy sf df sp.toNatClampNeg dp.toNatClampNeg t.toNatClampNeg))))) := by
    rw [vp_cell_q, vp_cell_q, vp_cell_q]
    exact va_copied (fun z => va_rf z) (cy 8) (cy 8) sf df h4
  rw [ecp] at X' step
  have hl : a < H.size := (Array.getElem?_eq_some_iff.mp c1).1
  obtain ⟨NC, hNC⟩ : ∃ NC, NC = vp_cell (cy 8) (n1, .inr (.inr (.inr (.inr (va_cpy sf df sp.toNatClampNeg dp.toNatClampNeg t.toNatClampNeg))))) := ⟨_, rfl⟩
  rw [← hNC] at X' step
  have hheap : ((T.setVm vm').setCell a NC).heap = H.setIfInBounds a NC := by rw [← hT]; rfl
  have oq : ∀ q : Nat, q ≠ a → (H.setIfInBounds a NC)[q]? = H[q]? := fun q hq => by simp [Array.getElem?_setIfInBounds, Ne.symm hq]
  have atA : (H.setIfInBounds a NC)[a]? = some NC := by simp [Array.getElem?_setIfInBounds, hl]
  obtain ⟨t1, b1, b2⟩ := kk _ _ ⟨by simp; exact q1, mh_upd q2 oq (by show (H.setIfInBounds a NC)[a]? = some _; rw [atA, hNC]), q3.up hz, q4.up (mh_T1.q 8 ht8), ⟨by simp; exact q5.1, fun q g1 g2 => by
      rw [oq q (fun z => g2 (by rw [z]; exact hz))]
      exact q5.2.1 q g1 g2, fun q hq => by
      rcases List.mem_append.mp hq with h | h
      · exact q5.2.2 q h
      · obtain ⟨z, -, hz2⟩ := List.mem_map.mp h
        rw [← hz2]
        exact hz⟩⟩ _ hheap X'
  exact ⟨t1, step t1 b1, b2⟩
set_option maxHeartbeats 2000000 in
theorem ev_spA_sound {code : List ev_I} (C0 : ev_C p s m args meth cd D cy z0 oc kd nl bytes) (hok : code.all (ev_okb oc kd bytes) = true) (hR : 2 ≤ R.frames ∧ 64 ≤ R.locals) {g : ev_F} {Y : ev_F → Prop} (hY : ∀ h, Y h → ev_W p l e R s m args below meth cd D cy z0 nl mc ms Q h) (h : ev_spA cy z0 (D.2 99 0) (D.2 99 1) oc code g Y) : ev_W p l e R s m args below meth cd D cy z0 nl mc ms Q g := by
  obtain ⟨pc, L, st, f, n, c, sl⟩ := g
  unfold ev_spA at h
  dsimp only at h
  split at h
  · exact h.elim
  next pc' i len a b w hat =>
  obtain ⟨hmem, hpc⟩ := ev_at_mem hat
  have hpc : pc = pc' := hpc
  subst hpc
  have hk := List.all_eq_true.mp hok _ hmem
  unfold ev_okb at hk
  simp only [Bool.and_eq_true, decide_eq_true_eq] at hk
  obtain ⟨⟨hd, hlen⟩, -⟩ := hk
  obtain ⟨hx, hb, hml, hown, hts, hnw, hK, hz0, hin, hst⟩ := id C0
  intro H ls locs hJ hl hc1 hcm hsm
  split at h
  · next k =>
    obtain ⟨rfl, rfl, hy⟩ := h
    have e3 : len = 3 := by simpa [ev_lenb] using hlen
    subst e3
    exact va_gets hx hb hst.1 hJ.2.2.2.2 hown (hts _ (ev_gw_in ka_gs rfl)) (fun _ h => h) hd (hY _ hy H ls locs hJ hl hc1 hcm hsm)
  · next k =>
    obtain ⟨ht, hq⟩ := h
    have e3 : len = 3 := by simpa [ev_lenb] using hlen
    subst e3
    obtain ⟨v, r1, rfl, hq1⟩ := ev_q_s hq
    obtain ⟨u, r2, rfl, hq2⟩ := ev_q_s hq1
    exact lv_acmp_eq hx hb hd ht (fun z => hY _ (hq2.1 z) H ls locs hJ hl hc1 hcm hsm) (fun z => hY _ (hq2.2 z) H ls locs hJ hl hc1 hcm hsm)
  · next k =>
    obtain ⟨ht, hq⟩ := h
    have e3 : len = 3 := by simpa [ev_lenb] using hlen
    subst e3
    obtain ⟨v, r1, rfl, hq1⟩ := ev_q_s hq
    obtain ⟨u, r2, rfl, hq2⟩ := ev_q_s hq1
    exact lv_acmp_ne hx hb hd ht (fun z => hY _ (hq2.2 z) H ls locs hJ hl hc1 hcm hsm) (fun z => hY _ (hq2.1 z) H ls locs hJ hl hc1 hcm hsm)
  · next k =>
    obtain ⟨rfl, rfl, hy⟩ := h
    have e3 : len = 2 := by simpa [ev_lenb] using hlen
    subst e3
    exact va_ldcM hx hb hown (hts _ (ev_gw_in ka_cl rfl)) hst.2.2.2.1 hd (hY _ hy H ls locs hJ hl hc1 hcm hsm)
  · next k =>
    obtain ⟨rfl, rfl, hy⟩ := h
    have e3 : len = 3 := by simpa [ev_lenb] using hlen
    subst e3
    obtain ⟨q, r, rfl, hsum, ⟨z, g, hz, hf⟩, hy1⟩ := ev_r_s hy
    have ht8 : (ev_tyl cy)[8]? = some (cy 8, .object "java/lang/Object") := rfl
    obtain ⟨kA, comp, r1, r2, r3, r4⟩ := (hK.2 8 _ ht8).2
    have hcell : H[q]? = some (vp_cell (cy 8) (z, .inr (.inr (.inr (.inr g))))) := hJ.2.1.s hf (mh_ns_q hz)
    exact va_getC hx hb (by rw [hml]; exact hl.1.symm) hown (hts _ (ev_gw_in ka_gc rfl)) hst.2.2.2.2.use (hts _ (ev_gw_in ka_ge rfl)) (hts _ (ev_gw_in ka_gi rfl)) (hts _ (ev_gw_in ka_gn rfl)) hst.2.2.2.1 ⟨_, hcell, rfl, r4⟩ (by omega) (by omega) hd (hY _ hy1 H ls locs hJ hl hc1 hcm hsm)
  · next k =>
    obtain ⟨hw, hy⟩ := h
    have e3 : len = 3 := by simpa [ev_lenb] using hlen
    subst e3
    obtain ⟨t, r1, rfl, hy1⟩ := ev_i_s hy
    obtain ⟨dp, r2, rfl, hy2⟩ := ev_i_s hy1
    obtain ⟨q, r3, rfl, hy3⟩ := ev_r_s hy2
    obtain ⟨sp, r4, rfl, hy4⟩ := ev_i_s hy3
    obtain ⟨q0, r5, rfl, hsum, n0, n1, sf, df, hs, hdst, hq, h1, h2, h3, h4, h5, hel, hy5⟩ := ev_r_s hy4
    have hz : z0 ≤ q := by
      rcases hJ.2.2.1 q _ hdst with h | h
      · exact h
      · exfalso
        simp only [mh_em, Sum.inl.injEq, Prod.mk.injEq] at h
        exact hq.2 h.2.1
    have hlk : (Cond.methodLink (ev_on oc) k arraycopyName).before args s = true := by
      rcases hw with ⟨rfl, rfl⟩ | ⟨rfl, rfl⟩
      · exact hts _ (ev_gw_in ka_c1 rfl)
      · exact hts _ (ev_gw_in ka_c2 rfl)
    have hnw : nativeFrameWords "java/lang/System" "arraycopy" 5 ≤ 40 := by decide +kernel
    exact es_copy C0 hJ hl.1.symm hown hlk hs hdst hq hz h1 h2 h3 h4 h5 hel ⟨by omega, by omega⟩ hd (fun H1 locs1 hJ1 => hY _ hy5 H1 ls locs1 hJ1 hl hc1 hcm hsm)
  · exact h.elim
end SPA
/-- a method of the list at depth d, by its own body over the hook -/
def ev_N (cy : Nat → ClassId) (z0 a0 mi : Nat) : Nat → Nat → List Value → ev_H → Nat → ev_P → Prop
  | 0 => fun _ _ _ _ _ => False
  | d + 1 => fun m as f n Post => match ev_ms[m]? with
    | none => False
    | some ((_, _, nl, rt, oc, _, _, mc, ms), code) => 1 ≤ d ∧ (as.all (fun v => v.category == 1) && decide (as.length ≤ nl)) = true ∧ ev_R cy (ev_N cy z0 a0 mi d) (ev_spA cy z0 a0 mi oc code) oc mc ms nl rt code Post (0, lv_args 0 as, [], f, n, 0, 0)
theorem ev_N_sound {l : Launch} {D : va_G} {cy : Nat → ClassId} {z0 : Nat} : ∀ d m as f n Post md code, ev_N cy z0 (D.2 99 0) (D.2 99 1) d m as f n Post → ev_ms[m]? = some (md, code) → ev_Mt l D cy z0 d md as f n Post := by
  intro d
  induction d with
  | zero => intro m as f n Post md code h; exact h.elim
  | succ d ih =>
    intro m as f n Post md code h hm
    unfold ev_N at h
    rw [hm] at h
    have hmem : (md, code) ∈ ev_ms := List.mem_of_getElem? hm
    obtain ⟨y, bytes, nl, rt, oc, na, kd, mc, ms⟩ := md
    obtain ⟨hd1, hca, hR⟩ := h
    rw [Bool.and_eq_true] at hca
    have hcat : ∀ v ∈ as, v.category = 1 := fun v hv => eq_of_beq (List.all_eq_true.mp hca.1 v hv)
    have hln : as.length ≤ nl := of_decide_eq_true hca.2
    obtain ⟨g1, g2, g3, g4, g5, g6, g7⟩ := ev_mdb_s hmem
    obtain ⟨-, hok⟩ := ev_ms_ok _ hmem
    refine Met.ofW (cc := bytes) (maxL := nl) (ret := rt) g1 rfl ?_
    intro p e s mm args below meth c s₁ B hml hv
    obtain ⟨rfl, hn, hP, hdom, hT, hz, hK, hnw, hst0⟩ := hv
    have hts0 := atoms_spec (ws := ev_ws (y, bytes, nl, rt, oc, na, kd, mc, ms)) B.pre
    have hts : ∀ w ∈ ev_gw, w.before as.toArray s = true := fun w hw => hts0 w (List.mem_cons_of_mem _ hw)
    have hown : s.vm.findClass (ev_on oc) = some mm.cls := by
      have := findClass_of_methodNamed B.named
      rw [show y.cls = ev_on oc from g6] at this
      exact this
    have hin : kd = 2 → meth.name = "<init>" := fun hk => (name_of_methodNamed B.named B.method).1.trans (g7 hk)
    have C0 : ev_C p s mm as.toArray meth c D cy z0 oc kd nl bytes := ⟨B.exec, B.bytes, hml, hown, hts, hnw, hK, by rw [hn]; exact hz, hin, hst0⟩
    have hl := lv_entry as (n := nl) (by rw [ev_sl_len hcat]; exact hln)
    rw [lg_entry_eq]
    have hW : ev_W p l e (ev_rm (d + 1) (y, bytes, nl, rt, oc, na, kd, mc, ms)) s mm as.toArray below meth c D cy z0 nl mc ms (MQ below (ev_Qc D cy z0 Post) as.toArray s mc ms (fun q => z0 ≤ q)) (0, lv_args 0 as, [], f, n, 0, 0) :=
      hR _ (fun g' Y hY hs => ev_step_sound (d := d) C0 hok ih ⟨Nat.le_refl _, Nat.le_refl _⟩ (Nat.le_refl _) (Nat.le_refl _) (ev_Rt_M C0 B.returns B.notSynchronized) (fun g Y hY h => ev_spA_sound C0 hok ⟨by show 2 ≤ d + 1; omega, by show 64 ≤ 36 * (d + 1); omega⟩ hY h) hY hs)
    exact hW s.heap _ [] ⟨hn, hP, hdom, hT, va_S.rf⟩ hl (fun q hq => hcat _ (ev_args_m hq)) (Nat.zero_le _) (Nat.zero_le _)
/-- what is told of methods from outside: ArrayList's, by their own bodies -/
def ev_X (cy : Nat → ClassId) (z0 a0 mi : Nat) : Nat → Nat → List Value → ev_H → Nat → ev_P → Prop := fun d m as f n Post => ev_N cy z0 a0 mi (d + 1) m as f n Post
