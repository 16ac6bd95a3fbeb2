/-! CALLS, AND THE WHOLE OF THE INSTRUCTIONS -/
set_option maxRecDepth 100000 in
theorem ev_w_oi : Cond.instanceMethod Lib.objectInit ∈ lw_tbl := List.mem_of_getElem? (i := 86) (by rfl)
set_option maxRecDepth 100000 in
theorem ev_w_oc : Cond.code Lib.objectInit ⟨#[0xb1]⟩ 1 none ∈ lw_tbl := List.mem_of_getElem? (i := 87) (by rfl)
set_option maxRecDepth 100000 in
theorem ev_w_ms : Cond.initialized "java/lang/Math" ∈ lw_tbl := List.mem_of_getElem? (i := 74) (by rfl)
set_option maxRecDepth 100000 in
theorem ev_w_xs : Cond.static Lib.Math.max.name ∈ lw_tbl := List.mem_of_getElem? (i := 494) (by rfl)
set_option maxRecDepth 100000 in
theorem ev_w_ns : Cond.static Lib.Math.min.name ∈ lw_tbl := List.mem_of_getElem? (i := 525) (by rfl)
set_option maxRecDepth 100000 in
theorem ev_w_xc : Cond.code Lib.Math.max.name Lib.Math.max.code 2 (some .int) ∈ lw_tbl := List.mem_of_getElem? (i := 495) (by rfl)
set_option maxRecDepth 100000 in
theorem ev_w_nc : Cond.code Lib.Math.min.name Lib.Math.min.code 2 (some .int) ∈ lw_tbl := List.mem_of_getElem? (i := 526) (by rfl)
theorem ev_mt_s {oc idx m b : Nat} (h : ev_mt.contains (oc, idx, m, b) = true) :
    (b = 5 → Cond.methodLink (ev_on oc) idx Lib.objectInit ∈ lw_tbl) ∧ (b = 6 → Cond.methodLink (ev_on oc) idx Lib.Math.max.name ∈ lw_tbl) ∧ (b = 7 → Cond.methodLink (ev_on oc) idx Lib.Math.min.name ∈ lw_tbl) ∧
    (b ≠ 5 → b ≠ 6 → b ≠ 7 → ∃ md code, ev_ms[m]? = some (md, code) ∧ Cond.initialized md.1.cls ∈ lw_tbl ∧
      (b = 0 → Cond.methodLink (ev_on oc) idx md.1 ∈ lw_tbl ∧ Cond.static md.1 ∈ lw_tbl) ∧
      (b = 1 → Cond.methodLink (ev_on oc) idx md.1 ∈ lw_tbl ∧ Cond.instanceMethod md.1 ∈ lw_tbl ∧ Cond.selects md.1.cls md.1 md.1 ∈ lw_tbl) ∧
      (b = 2 → Cond.methodLink (ev_on oc) idx md.1 ∈ lw_tbl ∧ Cond.instanceMethod md.1 ∈ lw_tbl ∧ md.1.name = "<init>") ∧
      (b = 3 → Cond.methodLinkNest (ev_on oc) idx md.1 "CreditLink" ∈ lw_tbl ∧ Cond.static md.1 ∈ lw_tbl)) := by
  obtain ⟨⟨r, i1, i2, i3, i4⟩, hz, he⟩ := ev_ct_in Prod.fst ev_mz_mt (List.contains_iff_mem.mp h)
  have hk := List.all_eq_true.mp ev_mz_ok _ hz
  dsimp only at he
  subst he
  unfold ev_mokb at hk
  dsimp only at hk
  by_cases h5 : b = 5
  · subst h5
    exact ⟨fun _ => ev_wd_s hk, fun h => absurd h (by decide), fun h => absurd h (by decide), fun h => absurd rfl h⟩
  by_cases h6 : b = 6
  · subst h6
    exact ⟨fun h => absurd h (by decide), fun _ => ev_wd_s hk, fun h => absurd h (by decide), fun _ h => absurd rfl h⟩
  by_cases h7 : b = 7
  · subst h7
    exact ⟨fun h => absurd h (by decide), fun h => absurd h (by decide), fun _ => ev_wd_s hk, fun _ _ h => absurd rfl h⟩
  refine ⟨fun h => absurd h h5, fun h => absurd h h6, fun h => absurd h h7, fun _ _ _ => ?_⟩
  rw [if_neg (by simpa using h5), if_neg (by simpa using h6), if_neg (by simpa using h7)] at hk
  split at hk
  · cases hk
  · next y bs nl rt oc' na kd mc ms code hm =>
    rw [Bool.and_eq_true] at hk
    obtain ⟨hi, hk⟩ := hk
    refine ⟨_, _, hm, ev_wd_s hi, fun h => ?_, fun h => ?_, fun h => ?_, fun h => ?_⟩
    · subst h
      simp only [beq_self_eq_true, if_true, Bool.and_eq_true] at hk
      exact ⟨ev_wd_s hk.1, ev_wd_s hk.2⟩
    · subst h
      rw [if_neg (by decide), if_pos (by decide)] at hk
      simp only [Bool.and_eq_true] at hk
      exact ⟨ev_wd_s hk.1.1, ev_wd_s hk.1.2, ev_wd_s hk.2⟩
    · subst h
      rw [if_neg (by decide), if_neg (by decide), if_pos (by decide)] at hk
      simp only [Bool.and_eq_true] at hk
      exact ⟨ev_wd_s hk.1.1.1, ev_wd_s hk.1.1.2, of_decide_eq_true hk.1.2⟩
    · subst h
      rw [if_neg (by decide), if_neg (by decide), if_neg (by decide)] at hk
      simp only [Bool.and_eq_true] at hk
      exact ⟨ev_wd_s hk.1, ev_wd_s hk.2⟩
def ev_G (D : va_G) (cy : Nat → ClassId) (z0 : Nat) (f : ev_H) (n : Nat) (U : State) : Prop := U.heap.size = n ∧ mh_P D vwCl f U.heap ∧ mh_dm cy z0 f ∧ mh_T cy f ∧ z0 ≤ n ∧ va_K D vwCl (ev_tyl cy) U ∧ (∀ w ∈ ev_nw, va_Nw w U) ∧ ev_st D z0 U U.heap
def ev_Qc (D : va_G) (cy : Nat → ClassId) (z0 : Nat) (Post : ev_P) : Array Value → State → Outcome → State → Prop := fun _ st oc t => ∃ v f' n', oc = .returned v ∧ Post v f' n' ∧ ev_G D cy z0 f' n' t ∧ va_F (fun q => z0 ≤ q) st t
def ev_ws (md : ev_Md) : List Cond := Cond.code md.1 md.2.1 md.2.2.1 md.2.2.2.1 :: ev_gw
def ev_rm (d : Nat) (md : ev_Md) : Room := { frames := d, cells := md.2.2.2.2.2.2.2.1, slots := md.2.2.2.2.2.2.2.2, locals := 36 * d }
/-- the contract of a method, at one start -/
def ev_Mt (l : Launch) (D : va_G) (cy : Nat → ClassId) (z0 d : Nat) (md : ev_Md) (as : List Value) (f : ev_H) (n : Nat) (Post : ev_P) : Prop :=
  Met l md.1 (ev_ws md) (ev_rm d md) (va_Pc as (ev_G D cy z0 f n)) (ev_Qc D cy z0 Post) md.2.2.2.2.2.2.2.1 md.2.2.2.2.2.2.2.2 (fun q => z0 ≤ q)
theorem ev_blind {D : va_G} {cy : Nat → ClassId} {z0 : Nat} {as : List Value} {f : ev_H} {n : Nat} : FrameBlind (va_Pc as (ev_G D cy z0 f n)) := fun a U g mk q => by
  obtain ⟨q0, q1, qP, q3, q4, q5, qK, qw, qs⟩ := q
  exact ⟨q0, q1, qP, q3, q4, q5, va_K.moved (u := U) (U := U.calling g mk a) (Vm.Alike.refl U.vm) qK, fun w hw => ev_nw_same (u := U) (U := U.calling g mk a) (List.mem_filter.mp hw).2 rfl (qw w hw), ev_st.moved (u := U) (U := U.calling g mk a) (Vm.Alike.refl U.vm) qs⟩
theorem ev_good {md : ev_Md} {code : List ev_I} (h : (md, code) ∈ ev_ms) : GoodIn ev_gw (ev_ws md) := by
  intro w hw
  rcases List.mem_cons.mp hw with rfl | hw
  · exact ⟨ev_gw_in (ev_ms_ok _ h).1 rfl, Or.inl rfl⟩
  · exact ⟨hw, good_of_word (List.mem_filter.mp hw).2⟩
theorem ev_mdb_s {md : ev_Md} {code : List ev_I} (h : (md, code) ∈ ev_ms) : plainName md.1.cls = true ∧ md.1.cls ≠ "java/lang/invoke/MethodHandle" ∧ md.1.cls ≠ "java/lang/invoke/VarHandle" ∧ (parseMethodDescriptor md.1.desc).map (fun d => d.parameters.length) = some md.2.2.2.2.2.1 ∧ md.2.2.1 ≤ 17 ∧ md.1.cls = ev_on md.2.2.2.2.1 ∧ (md.2.2.2.2.2.2.1 = 2 → md.1.name = "<init>") := by
  have hb := List.all_eq_true.mp ev_ms_b _ h
  unfold ev_mdb at hb
  simp only [Bool.and_eq_true] at hb
  obtain ⟨⟨⟨⟨⟨⟨h1, h2⟩, h3⟩, h4⟩, h5⟩, h6⟩, h7⟩ := hb
  refine ⟨h1, of_decide_eq_true h2, of_decide_eq_true h3, of_decide_eq_true h4, of_decide_eq_true h5, of_decide_eq_true h6, fun h8 => ?_⟩
  have := eq_of_beq h7
  rw [decide_eq_true h8] at this
  exact of_decide_eq_true this.symm
section EC
variable {p : Program} {l : Launch} {e : Env} {R : Room} {s : State} {m : MethodId} {args : Array Value} {below : List Frame} {meth : Method} {cd : Code} {H : Heap} {locs : List Loc} {cells slots : Nat} {Q : State → Prop}
variable {D : va_G} {cy : Nat → ClassId} {z0 oc kd nl : Nat} {bytes : ByteArray} {f : ev_H} {n pc : Nat} {ls : Array Slot} {r : List Value}
theorem es_pre (C0 : ev_C p s m args meth cd D cy z0 oc kd nl bytes) (hJ : ev_J D cy z0 s.heap f n H locs) (as : List Value) : ∀ U : State, U.heap = H → s.WarmedH U.vm → va_Pc as (ev_G D cy z0 f n) as.toArray U := by
  obtain ⟨hx, hb, hml, hown, hts, hnw, hK, hz, -, hst0⟩ := C0
  intro U hU hW
  exact ⟨rfl, by rw [hU]; exact hJ.1, by rw [hU]; exact hJ.2.1, hJ.2.2.1, hJ.2.2.2.1, by rw [← hJ.1]; exact Nat.le_trans hz hJ.2.2.2.2.1, va_K.moved hW.alike hK, fun w hw => ev_nw_warm (List.mem_filter.mp hw).2 hW (hnw w hw), by rw [hU]; exact (hst0.kept hJ.2.2.2.2.2.1).moved hW.alike⟩
theorem es_run {mc ms : Nat} {st0 : List Value} {Post : ev_P} {a : Array Value} (hr : va_Run p l e R s m args below meth cd H locs cells slots mc ms (F0 m pc ls st0) r (ev_Qc D cy z0 Post a) (fun q => z0 ≤ q)) (hJ : ev_J D cy z0 s.heap f n H locs)
    (kk : ∀ v f' n' H1 locs1, Post v f' n' → ev_J D cy z0 s.heap f' n' H1 locs1 → W p l e R s m args below meth cd H1 locs1 (cells + mc) (slots + ms) Q (F0 m (pc + 3) ls (v.toList ++ r))) : W p l e R s m args below meth cd H locs cells slots Q (F0 m pc ls st0) := by
  have hS := hJ.2.2.2.2
  intro T hT X
  obtain ⟨v, st₀, t, T', L, h0, X', hL, e1, e2, ⟨v', f', n', hv, hp, hG, hF⟩, st⟩ := hr T hT X
  cases hv
  obtain ⟨hz, hk⟩ := hF
  rw [h0] at hz hk
  obtain ⟨g1, g2, g3, g4, -⟩ := hG
  obtain ⟨t2, a1, b1⟩ := kk v f' n' T'.heap (locs ++ L) hp ⟨by rw [e1]; exact g1, by rw [e1]; exact g2, g3, g4, ⟨Nat.le_trans hS.1 (by rw [e1]; exact hz), fun q h1 h2 => by rw [e1, hk q (Nat.lt_of_lt_of_le h1 hS.1) h2]; exact hS.2.1 q h1 h2, fun q hq => (List.mem_append.mp hq).elim (hS.2.2 q) (hL q)⟩⟩ T' rfl X'
  exact ⟨t2, st t2 a1, b1⟩
theorem es_cb (hts : ∀ w ∈ ev_gw, w.before args s = true) {md : ev_Md} {code : List ev_I} (hq : (md, code) ∈ ev_ms) {idx d : Nat} (hini : Cond.initialized md.1.cls ∈ lw_tbl) (hl : Cond.methodLink (ev_on oc) idx md.1 ∈ lw_tbl) (hR : d + 1 ≤ R.frames ∧ 36 * d + 36 ≤ R.locals) :
    CallB R s args (ev_on oc) idx md.1 md.2.1 md.2.2.1 md.2.2.2.1 (ev_ws md) (ev_rm d md) md.2.2.2.2.2.2.2.1 md.2.2.2.2.2.2.2.2 md.2.2.2.2.2.1 := by
  obtain ⟨-, h2, h3, h4, h5, -⟩ := ev_mdb_s hq
  exact callB_of _ hts (ev_good hq) rfl rfl rfl (hts _ (ev_gw_in hini rfl)) (hts _ (ev_gw_in hl rfl)) ⟨h2, h3, h4⟩ ⟨hR.1, by show 8 + (md.2.2.1 + 11) + 36 * d ≤ R.locals; omega⟩
end EC
