/-! THE INSTRUCTIONS ARE SOUND, one by one: those that touch the heap -/
def ev_isn : Cond → Bool
  | .fieldLinkNest _ _ _ _ _ _ => true
  | .methodLinkNest _ _ _ _ => true
  | .castable _ _ => true
  | .arrayOver (.object _) => true
  | _ => false
def ev_gw : List Cond := lw_tbl.filter goodWord
def ev_nw : List Cond := lw_tbl.filter ev_isn
theorem ev_nw_warm {w : Cond} (hw : ev_isn w = true) {s U : State} (hW : s.WarmedH U.vm) (h : va_Nw w s) : va_Nw w U := by
  unfold ev_isn at hw
  split at hw
  · exact va_Nw.warmF hW h
  · exact va_Nw.warmM hW h
  · exact va_Nw.warmC hW h
  · exact va_AO.moved hW.alike h
  · cases hw
theorem ev_nw_same {w : Cond} (hw : ev_isn w = true) {u U : State} (h : u.vm = U.vm) (hz : va_Nw w u) : va_Nw w U := by
  unfold ev_isn at hw
  split at hw
  · exact va_Nw.same rfl h hz
  · exact va_Nw.same rfl h hz
  · exact va_Nw.same rfl h hz
  · exact va_AO.moved (h ▸ Vm.Alike.refl u.vm) hz
  · cases hw
def mh_T1 (cy : Nat → ClassId) (e : va_E) : Prop := ∀ (cA : ClassId) (z : Nat) (g : (Nat → Int32) ⊕ (Nat → Int64) ⊕ (Nat → UInt32) ⊕ (Nat → UInt64) ⊕ (Nat → Option Nat)), e = .inl (cA, z, g) → ∃ (t : Nat) (ty : FieldType), (ev_tyl cy)[t]? = some (cA, ty) ∧ ((∃ q, g = .inr (.inr (.inr (.inr q)))) → ∃ C, ty = .object C)
def mh_T (cy : Nat → ClassId) (f : ev_H) : Prop := ∀ (a : Nat) (e : va_E), f a = some e → mh_T1 cy e
theorem mh_T1.ob {cy : Nat → ClassId} {o : Nat × List Value} : mh_T1 cy (.inr o) := fun _ _ _ h => by cases h
theorem mh_T1.i {cy : Nat → ClassId} (t : Nat) {cA : ClassId} {ty : FieldType} {z : Nat} {g : Nat → Int32} (h : (ev_tyl cy)[t]? = some (cA, ty)) : mh_T1 cy (.inl (cA, z, .inl g)) := fun _ _ _ h1 => by cases h1; exact ⟨t, ty, h, fun ⟨q, hq⟩ => by cases hq⟩
theorem mh_T1.l {cy : Nat → ClassId} (t : Nat) {cA : ClassId} {ty : FieldType} {z : Nat} {g : Nat → Int64} (h : (ev_tyl cy)[t]? = some (cA, ty)) : mh_T1 cy (.inl (cA, z, .inr (.inl g))) := fun _ _ _ h1 => by cases h1; exact ⟨t, ty, h, fun ⟨q, hq⟩ => by cases hq⟩
theorem mh_T1.q {cy : Nat → ClassId} (t : Nat) {cA : ClassId} {C : String} {z : Nat} {g : Nat → Option Nat} (h : (ev_tyl cy)[t]? = some (cA, .object C)) : mh_T1 cy (.inl (cA, z, .inr (.inr (.inr (.inr g))))) := fun _ _ _ h1 => by cases h1; exact ⟨t, _, h, fun _ => ⟨C, rfl⟩⟩
theorem mh_T.up {cy : Nat → ClassId} {f : ev_H} {a : Nat} {e : va_E} (h : mh_T cy f) (he : mh_T1 cy e) : mh_T cy (va_up f a (some e)) := by
  intro q y hq
  unfold va_up at hq
  split at hq
  · cases hq; exact he
  · exact h q y hq
theorem mh_one {D : va_G} {cl : List vw_C} {f : ev_H} {H : Heap} (h : mh_P D cl f H) {a : Nat} {e : va_E} (he : f a = some e) (hn : mh_ns e = true := by rfl) : va_P D cl [(a, e)] H := by
  intro k q hk
  have hk0 : k < 1 := (List.getElem?_eq_some_iff.mp hk).1
  have : k = 0 := by omega
  subst this
  cases hk
  exact h.s he hn
theorem mh_upd {D : va_G} {cl : List vw_C} {f : ev_H} {H H1 : Heap} {a : Nat} {e : va_E} (h : mh_P D cl f H) (ho : ∀ q : Nat, q ≠ a → H1[q]? = H[q]?) (he : va_at D cl (a, e) H1) : mh_P D cl (va_up f a (some e)) H1 := by
  intro q y hq
  unfold va_up at hq
  split at hq
  · next hqa => cases hq; subst hqa; exact Or.inl he
  · next hqa => exact h.keep hq (ho q hqa)
/-- an empty array of objects: it may lie among what was there before, for nothing can be written into it -/
abbrev mh_em (cy : Nat → ClassId) : va_E := .inl (cy 8, 0, .inr (.inr (.inr (.inr fun _ => none))))
def mh_dm (cy : Nat → ClassId) (z0 : Nat) (f : ev_H) : Prop := ∀ q e, f q = some e → z0 ≤ q ∨ e = mh_em cy
theorem mh_dm.up {cy : Nat → ClassId} {z0 a : Nat} {f : ev_H} {e : va_E} (h : mh_dm cy z0 f) (ha : z0 ≤ a) : mh_dm cy z0 (va_up f a (some e)) := by
  intro q x hq
  unfold va_up at hq
  split at hq
  · next h1 => rw [h1]; exact Or.inl ha
  · exact h q x hq
theorem mh_em_o {cy : Nat → ClassId} {o : Nat × List Value} : (.inr o : va_E) ≠ mh_em cy := fun q => by cases q
theorem mh_em_i {cy : Nat → ClassId} {c : ClassId} {z : Nat} {g : Nat → Int32} : (.inl (c, z, .inl g) : va_E) ≠ mh_em cy := by
  intro q
  injection q with q
  injection q with _ q
  injection q with _ q
  cases q
theorem mh_em_l {cy : Nat → ClassId} {c : ClassId} {z : Nat} {g : Nat → Int64} : (.inl (c, z, .inr (.inl g)) : va_E) ≠ mh_em cy := by
  intro q
  injection q with q
  injection q with _ q
  injection q with _ q
  injection q with q
  cases q
theorem mh_em_q {cy : Nat → ClassId} {c : ClassId} {z : Nat} {g : Nat → Option Nat} {u : Int32} (hin : vp_in u z) : (.inl (c, z, .inr (.inr (.inr (.inr g)))) : va_E) ≠ mh_em cy := by
  intro q
  injection q with q
  injection q with _ q
  injection q with q _
  subst q
  exact hin (Or.inr (Nat.zero_le _))
/-- what the static fields hold that are read here -/
def ev_st (D : va_G) (z0 : Nat) (U : State) (H : Heap) : Prop := va_Z "java/util/ArrayList" "DEFAULTCAPACITY_EMPTY_ELEMENTDATA" "[Ljava/lang/Object;" (.ref (D.2 99 0)) (fun q => z0 ≤ q) U H ∧ vx_Zq Bundle.tN "UNASSIGNED_STACK" Bundle.steD (fun q => z0 ≤ q) U H ∧ vx_Zq Bundle.tN "SUPPRESSED_SENTINEL" Bundle.listD (fun q => z0 ≤ q) U H ∧ va_Mi "[Ljava/lang/Object;" (D.2 99 1) U ∧ va_Dc U
theorem ev_st.moved {D : va_G} {z0 : Nat} {u U : State} {H : Heap} (hvm : u.vm.Alike U.vm) (h : ev_st D z0 u H) : ev_st D z0 U H := ⟨h.1.moved hvm, h.2.1.moved hvm, h.2.2.1.moved hvm, h.2.2.2.1.moved hvm, h.2.2.2.2.moved hvm⟩
theorem ev_st.kept {D : va_G} {z0 : Nat} {U : State} {H H1 : Heap} (h : ev_st D z0 U H) (hq : ∀ a : Nat, a < H.size → ¬ z0 ≤ a → H1[a]? = H[a]?) : ev_st D z0 U H1 := ⟨h.1.kept hq, h.2.1.kept hq, h.2.2.1.kept hq, h.2.2.2⟩
def ev_J (D : va_G) (cy : Nat → ClassId) (z0 : Nat) (H0 : Heap) (f : ev_H) (n : Nat) (H : Heap) (locs : List Loc) : Prop := H.size = n ∧ mh_P D vwCl f H ∧ mh_dm cy z0 f ∧ mh_T cy f ∧ va_S (fun q => z0 ≤ q) H0 H locs
theorem ev_J.set {D : va_G} {cy : Nat → ClassId} {z0 : Nat} {H0 : Heap} {f : ev_H} {n : Nat} {H : Heap} {locs : List Loc} (hJ : ev_J D cy z0 H0 f n H locs) {a k : Nat} {e0 e' : va_E} (hf : f a = some e0) (hne : e0 ≠ mh_em cy) {H1 : Heap} (z : H1.size = H.size) (oq : ∀ q : Nat, q ≠ a → H1[q]? = H[q]?) (he : va_at D vwCl (a, e') H1) (ht : mh_T1 cy e') : ev_J D cy z0 H0 (va_up f a (some e')) n H1 (locs ++ [⟨a, k⟩]) := by
  obtain ⟨h1, h2, h3, h4, h5⟩ := hJ
  exact ⟨z.trans h1, mh_upd h2 oq he, h3.up ((h3 a _ hf).resolve_right hne), h4.up ht, h5.put z oq ((h3 a _ hf).resolve_right hne)⟩
theorem ev_J.push {D : va_G} {cy : Nat → ClassId} {z0 : Nat} {H0 : Heap} {f : ev_H} {n : Nat} {H : Heap} {locs : List Loc} (hJ : ev_J D cy z0 H0 f n H locs) (hz : z0 ≤ H0.size) {e' : va_E} {H1 : Heap} (z : H1.size = H.size + 1) (oq : ∀ q : Nat, q < H.size → H1[q]? = H[q]?) (he : va_at D vwCl (H.size, e') H1) (ht : mh_T1 cy e') : ev_J D cy z0 H0 (va_up f n (some e')) (n + 1) H1 locs := by
  obtain ⟨h1, h2, h3, h4, h5⟩ := hJ
  have hzn : z0 ≤ n := by rw [← h1]; exact Nat.le_trans hz h5.1
  subst h1
  exact ⟨z, mh_push h2 oq he, h3.up hzn, h4.up ht, ⟨Nat.le_trans h5.1 (by omega), fun q g1 g2 => (oq q (Nat.lt_of_lt_of_le g1 h5.1)).trans (h5.2.1 q g1 g2), h5.2.2⟩⟩
/-- what holds all along in a method's body -/
def ev_C (p : Program) (s : State) (m : MethodId) (args : Array Value) (meth : Method) (cd : Code) (D : va_G) (cy : Nat → ClassId) (z0 oc kd nl : Nat) (bytes : ByteArray) : Prop :=
  p.tables.exec = Jvm.exec ∧ cd.code = bytes ∧ cd.maxLocals = nl ∧ s.vm.findClass (ev_on oc) = some m.cls ∧ (∀ w ∈ ev_gw, w.before args s = true) ∧ (∀ w ∈ ev_nw, va_Nw w s) ∧ va_K D vwCl (ev_tyl cy) s ∧ z0 ≤ s.heap.size ∧ (kd = 2 → meth.name = "<init>") ∧ ev_st D z0 s s.heap
theorem ev_gw_in {w : Cond} (h : w ∈ lw_tbl) (hg : goodWord w = true) : w ∈ ev_gw := List.mem_filter.mpr ⟨h, hg⟩
theorem ev_nw_in {w : Cond} (h : w ∈ lw_tbl) (hg : ev_isn w = true) : w ∈ ev_nw := List.mem_filter.mpr ⟨h, hg⟩
set_option maxRecDepth 100000 in
theorem ev_decl {ci : Nat} {C : String} {T : u_T} {N : Nat} (hc : vwCl[ci]? = some (C, T, N)) : ∀ k, k < N → (T k).2.2.2 = true → (T k).1 = C := by
  have hci : ci < 9 := (List.getElem?_eq_some_iff.mp hc).1
  match ci, hc with
  | 0, hc => cases hc; decide +kernel
  | 1, hc => cases hc; decide +kernel
  | 2, hc => cases hc; decide +kernel
  | 3, hc => cases hc; decide +kernel
  | 4, hc => cases hc; decide +kernel
  | 5, hc => cases hc; decide +kernel
  | 6, hc => cases hc; decide +kernel
  | 7, hc => cases hc; decide +kernel
  | 8, hc => cases hc; decide +kernel
  | k + 9, _ => omega
section ER
variable {p : Program} {l : Launch} {e : Env} {R : Room} {s : State} {m : MethodId} {args : Array Value} {below : List Frame} {meth : Method} {cd : Code} {H : Heap} {locs : List Loc} {cells slots : Nat} {Q : State → Prop}
variable {D : va_G} {cy : Nat → ClassId} {z0 oc kd nl : Nat} {bytes : ByteArray} {f : ev_H} {n pc : Nat} {ls : Array Slot} {r : List Value}
theorem es_get (C0 : ev_C p s m args meth cd D cy z0 oc kd nl bytes) (hJ : ev_J D cy z0 s.heap f n H locs) {q a b k : Nat} {fs : List Value} {v : Value} {w : Int32} (hf : f q = some (.inr (a, fs))) (hv : fs[b]? = some v) (ho : ev_ft.contains (oc, k, a, b, w) = true) (hd : decode bytes pc = .ok (.getfield k, 3))
    (kk : W p l e R s m args below meth cd H locs cells slots Q (F0 m (pc + 3) ls (v :: r))) : W p l e R s m args below meth cd H locs cells slots Q (F0 m pc ls (.ref q :: r)) := by
  obtain ⟨hx, hb, hml, hown, hts, hnw, hK, -⟩ := C0
  obtain ⟨C, T, N, hc, hkN, hl⟩ := ev_ft_s ho
  have hP1 := mh_one hJ.2.1 hf
  rcases hl with ⟨-, hl⟩ | ⟨-, hl⟩ | ⟨-, hl, hs⟩
  · exact va_get (D := D) hx hb hts (ev_lay_s hc) hown hK hP1 0 rfl hc b hkN (hts _ (ev_gw_in hl rfl)) (fun _ h => h) hv hd kk
  · exact va_getN (D := D) hx hb hts (ev_lay_s hc) hown hK hP1 0 rfl hc b hkN (va_Nw.use rfl (hnw _ (ev_nw_in hl rfl))) (fun _ h => h) hv hd kk
  · exact va_get (D := D) hx hb hts (ev_lay_s hc) hown hK hP1 0 rfl hc b hkN (hts _ (ev_gw_in hl rfl)) (fun y h => u_same (hts _ (ev_gw_in hs rfl)) y h) hv hd kk
set_option maxHeartbeats 4000000 in
theorem es_put (C0 : ev_C p s m args meth cd D cy z0 oc kd nl bytes) (hJ : ev_J D cy z0 s.heap f n H locs) {q a b k : Nat} {fs : List Value} {v : Value} {w : Int32} (hf : f q = some (.inr (a, fs))) (hbl : b < fs.length) (hfit : ev_fit (ev_ty a b) v) (ho : ev_ft.contains (oc, k, a, b, w) = true) (hfn : ev_fin a b = false ∨ (kd = 2 ∧ w = 0 ∧ (vwCl.map fun q => q.1)[a]? = some (ev_on oc))) (hd : decode bytes pc = .ok (.putfield k, 3))
    (kk : ∀ (H1 : Heap) (locs1 : List Loc), ev_J D cy z0 s.heap (va_up f q (some (.inr (a, fs.set b v)))) n H1 locs1 → W p l e R s m args below meth cd H1 locs1 cells slots Q (F0 m (pc + 3) ls r)) : W p l e R s m args below meth cd H locs cells slots Q (F0 m pc ls (v :: .ref q :: r)) := by
  obtain ⟨hx, hb, hml, hown, hts, hnw, hK, hz, hin, hst0⟩ := C0
  obtain ⟨C, T, N, hc, hkN, hl⟩ := ev_ft_s ho
  obtain ⟨hty, hnm, -⟩ := ev_ty_s hc
  obtain ⟨hn, hft⟩ := ev_fit_s hfit
  have hlw := ev_lay_s hc
  have hap := va_apart (own := ev_on oc) hts hlw (ev_ty a) hty hnm hK hc
  obtain ⟨r', h1, cell, q1, q2, q3, q4⟩ := hJ.2.1.s hf
  have hr : r' = (C, T, N) := Option.some.inj (h1.symm.trans hc)
  subst hr
  obtain ⟨hS, hfc, kC, hkC, hkind⟩ := hK.1 a _ hc
  obtain ⟨cf, kf, fi, fd, hi, hsl⟩ := hS b hkN
  have hlay := hts _ (hlw _ (u_in_lay hkN))
  have hst := (u_facts hfc hkC (u_lays hts hlw hkN) hi).1
  have fin : ∀ (H' : Heap), H'[q]? = some (cell.setSlot (D.2 a b) v) → H'.size = H.size → (∀ x, x ≠ q → H'[x]? = H[x]?) → W p l e R s m args below meth cd H' (locs ++ [⟨q, D.2 a b⟩]) cells slots Q (F0 m (pc + 3) ls r) := by
    intro H' e1 e2 e3
    exact kk H' _ (hJ.set hf mh_em_o e2 e3 ⟨_, hc, t_OB.to (V := updV (vp_V fs) b v) ⟨_, e1, q2, q3, t_set q4 hap hkN v⟩ (fun j _ => vp_updV_set hbl v j)⟩ mh_T1.ob)
  by_cases hfi : (T b).2.2.2 = true
  · have hfe : ev_fin a b = true := by unfold ev_fin; rw [hc]; exact hfi
    rcases hfn with h0 | ⟨hk2, hw0, hcn⟩
    · rw [hfe] at h0; cases h0
    · have hC : C = ev_on oc := by
        rw [List.getElem?_map, hc] at hcn
        exact Option.some.inj hcn
      unfold u_lay at hlay
      rw [if_pos hfi] at hlay
      have hdl := ev_decl hc b hkN hfi
      have hcf : m.cls = cf := by
        obtain ⟨_, _, c', _, _, _, -, -, hf', -, -, -, hown2, -⟩ := Cond.laysFinal_spec hlay
        have e1 : c' = cf := by have := hi.symm.trans hf'; simp at this; exact this.1.symm
        rw [hdl, hC] at hown2
        rw [← e1]; exact Option.some.inj (hown.symm.trans hown2)
      have h6 := u_fits hfc hkC hkind (Or.inr hlay) hi (hty b hkN) hn hft
      rcases hl with ⟨-, hl⟩ | ⟨hw, hl⟩ | ⟨hw, hl, hs⟩
      · refine W.putFinK hx hb hown (hts _ (ev_gw_in hl rfl)) hi hst hcf (hin hk2) (by rw [q2]; exact h6) q1 q3 (by rw [hsl]; exact k2_hasslot (q4 b hkN)) rfl rfl hd fun H' e1 e2 e3 => ?_
        rw [hsl] at e1 ⊢
        exact fin H' e1 e2 e3
      · rw [hw0] at hw; exact absurd hw (by decide)
      · exact absurd hw0 hw
  · have hff : (T b).2.2.2 = false := by simpa using hfi
    unfold u_lay at hlay
    rw [if_neg hfi] at hlay
    have h6 := u_store hfc hkC hkind hlay hi (hty b hkN) hn hft
    rcases hl with ⟨-, hl⟩ | ⟨-, hl⟩ | ⟨-, hl, hs⟩
    · refine W.putK hx hb (f := fd) ⟨hown, hts _ (ev_gw_in hl rfl), ⟨_, _, _, hi⟩, hst⟩ (by rw [q2]; exact h6) q1 q3 (by rw [hsl]; exact k2_hasslot (q4 b hkN)) rfl rfl hd fun H' e1 e2 e3 => ?_
      rw [hsl] at e1 ⊢
      exact fin H' e1 e2 e3
    · refine va_WputK hx hb (f := fd) hown (va_Nw.use rfl (hnw _ (ev_nw_in hl rfl))) hi hst (by rw [q2]; exact h6) q1 q3 (by rw [hsl]; exact k2_hasslot (q4 b hkN)) rfl rfl hd fun H' e1 e2 e3 => ?_
      rw [hsl] at e1 ⊢
      exact fin H' e1 e2 e3
    · refine W.putK hx hb (f := fd) ⟨hown, hts _ (ev_gw_in hl rfl), ⟨_, _, _, u_same (hts _ (ev_gw_in hs rfl)) _ hi⟩, hst⟩ (by rw [q2]; exact h6) q1 q3 (by rw [hsl]; exact k2_hasslot (q4 b hkN)) rfl rfl hd fun H' e1 e2 e3 => ?_
      rw [hsl] at e1 ⊢
      exact fin H' e1 e2 e3
theorem es_iald (C0 : ev_C p s m args meth cd D cy z0 oc kd nl bytes) (hJ : ev_J D cy z0 s.heap f n H locs) {q z : Nat} {g : Nat → Int32} {u : Int32} (hf : f q = some (.inl (cy 1, z, .inl g))) (hi : vp_in u z) (hd : decode bytes pc = .ok (.iaload, 1))
    (kk : W p l e R s m args below meth cd H locs cells slots Q (F0 m (pc + 1) ls (.int (g u.toNatClampNeg) :: r))) : W p l e R s m args below meth cd H locs cells slots Q (F0 m pc ls (.int u :: .ref q :: r)) := by
  obtain ⟨hx, hb, hml, hown, hts, hnw, hK, -⟩ := C0
  exact va_iald hx hb hK (mh_one hJ.2.1 hf) 0 1 rfl rfl hi hd kk
theorem es_bald (C0 : ev_C p s m args meth cd D cy z0 oc kd nl bytes) (hJ : ev_J D cy z0 s.heap f n H locs) {q z : Nat} {g : Nat → Int32} {u : Int32} (hf : f q = some (.inl (cy (ev_bt oc), z, .inl g))) (hi : vp_in u z) (hd : decode bytes pc = .ok (.baload, 1))
    (kk : W p l e R s m args below meth cd H locs cells slots Q (F0 m (pc + 1) ls (.int (g u.toNatClampNeg) :: r))) : W p l e R s m args below meth cd H locs cells slots Q (F0 m pc ls (.int u :: .ref q :: r)) := by
  obtain ⟨hx, hb, hml, hown, hts, hnw, hK, -⟩ := C0
  unfold ev_bt at hf
  split at hf
  · exact va_zald hx hb hK (mh_one hJ.2.1 hf) 0 2 rfl rfl hi hd kk
  · exact va_bald hx hb hK (mh_one hJ.2.1 hf) 0 0 rfl rfl hi hd kk
theorem es_lald (C0 : ev_C p s m args meth cd D cy z0 oc kd nl bytes) (hJ : ev_J D cy z0 s.heap f n H locs) {q z : Nat} {g : Nat → Int64} {u : Int32} (hf : f q = some (.inl (cy 3, z, .inr (.inl g)))) (hi : vp_in u z) (hd : decode bytes pc = .ok (.laload, 1))
    (kk : W p l e R s m args below meth cd H locs cells slots Q (F0 m (pc + 1) ls (.long (g u.toNatClampNeg) :: r))) : W p l e R s m args below meth cd H locs cells slots Q (F0 m pc ls (.int u :: .ref q :: r)) := by
  obtain ⟨hx, hb, hml, hown, hts, hnw, hK, -⟩ := C0
  exact va_lald hx hb hK (mh_one hJ.2.1 hf) 0 3 rfl rfl hi hd kk
theorem es_aald (C0 : ev_C p s m args meth cd D cy z0 oc kd nl bytes) (hJ : ev_J D cy z0 s.heap f n H locs) {q z : Nat} {cA : ClassId} {g : Nat → Option Nat} {u : Int32} (hf : f q = some (.inl (cA, z, .inr (.inr (.inr (.inr g)))))) (hi : vp_in u z) (hd : decode bytes pc = .ok (.aaload, 1))
    (kk : W p l e R s m args below meth cd H locs cells slots Q (F0 m (pc + 1) ls (va_rf (g u.toNatClampNeg) :: r))) : W p l e R s m args below meth cd H locs cells slots Q (F0 m pc ls (.int u :: .ref q :: r)) := by
  obtain ⟨hx, hb, hml, hown, hts, hnw, hK, -⟩ := C0
  obtain ⟨t, ty, ht, hq⟩ := hJ.2.2.2.1 q _ hf _ _ _ rfl
  obtain ⟨C, rfl⟩ := hq ⟨g, rfl⟩
  exact va_aldq hx hb hK (mh_one hJ.2.1 hf (mh_ns_q (fun q => hi (Or.inr (by rw [q]; exact Nat.zero_le _))))) 0 t rfl ht hi hd kk
theorem es_alen (C0 : ev_C p s m args meth cd D cy z0 oc kd nl bytes) (hJ : ev_J D cy z0 s.heap f n H locs) {q z : Nat} {cA : ClassId} {g : (Nat → Int32) ⊕ (Nat → Int64) ⊕ (Nat → UInt32) ⊕ (Nat → UInt64) ⊕ (Nat → Option Nat)} (hf : f q = some (.inl (cA, z, g))) (hd : decode bytes pc = .ok (.arraylength, 1))
    (kk : W p l e R s m args below meth cd H locs cells slots Q (F0 m (pc + 1) ls (.int (Int32.ofNat z) :: r))) : W p l e R s m args below meth cd H locs cells slots Q (F0 m pc ls (.ref q :: r)) := by
  obtain ⟨hx, hb, hml, hown, hts, hnw, hK, -⟩ := C0
  obtain ⟨t, ty, ht, hq⟩ := hJ.2.2.2.1 q _ hf _ _ _ rfl
  rcases hJ.2.1 q _ hf with h | ⟨cA', g', cell, he, hc, hcl, hsz, hst⟩
  · have hP1 : va_P D vwCl [(q, .inl (cA, z, g))] H := by
      intro k y hk
      have hk0 : k < 1 := (List.getElem?_eq_some_iff.mp hk).1
      have : k = 0 := by omega
      subst this
      cases hk
      exact h
    exact va_alen hx hb hK hP1 0 t rfl ht rfl hd kk
  · cases he
    obtain ⟨-, kA, hkA, comp, hkind⟩ := (hK.2 t _ ht).1 0 (fun _ => .null)
    exact W.alen (n := Int32.ofNat 0) hx hb hc ⟨fun k h => (by rw [h] at hst; cases hst), kA, (by rw [hcl]; exact hkA), comp, hkind⟩ (by rw [hsz]) rfl rfl hd kk
theorem es_iast (C0 : ev_C p s m args meth cd D cy z0 oc kd nl bytes) (hJ : ev_J D cy z0 s.heap f n H locs) {q z : Nat} {g : Nat → Int32} {u v : Int32} (hf : f q = some (.inl (cy 1, z, .inl g))) (hin : vp_in u z) (hd : decode bytes pc = .ok (.iastore, 1))
    (kk : ∀ (H1 : Heap) (locs1 : List Loc), ev_J D cy z0 s.heap (va_up f q (some (.inl (cy 1, z, .inl (upd g u.toNatClampNeg v))))) n H1 locs1 → W p l e R s m args below meth cd H1 locs1 cells slots Q (F0 m (pc + 1) ls r)) : W p l e R s m args below meth cd H locs cells slots Q (F0 m pc ls (.int v :: .int u :: .ref q :: r)) := by
  obtain ⟨hx, hb, hml, hown, hts, hnw, hK, -⟩ := C0
  refine W.iast hx hb (hJ.2.1.s hf) ((hK.2 1 _ rfl).1 z (fun j => .int (g j))) (fun q => by cases q) (by show ¬ (u < 0 ∨ (arrV _ _ _).slots.size ≤ _); rw [arrV_size]; exact hin) rfl rfl hd fun H1 e z oq => ?_
  refine kk H1 _ (hJ.set hf mh_em_i z oq ?_ (mh_T1.i 1 rfl))
  show H1[q]? = some (vp_cell _ _)
  rw [e]
  rw [vp_cell_i, vp_cell_i, arrV_store]
  congr 2
  funext j
  by_cases hj : j = u.toNatClampNeg
  · subst hj
    simp [updV, upd]
  · simp [updV, upd, hj]
theorem es_bast (C0 : ev_C p s m args meth cd D cy z0 oc kd nl bytes) (hJ : ev_J D cy z0 s.heap f n H locs) {q z : Nat} {g : Nat → Int32} {u v : Int32} (hf : f q = some (.inl (cy (ev_bt oc), z, .inl g))) (hin : vp_in u z) (hd : decode bytes pc = .ok (.bastore, 1))
    (kk : ∀ (H1 : Heap) (locs1 : List Loc), ev_J D cy z0 s.heap (va_up f q (some (.inl (cy (ev_bt oc), z, .inl (upd g u.toNatClampNeg (ev_bn oc v)))))) n H1 locs1 → W p l e R s m args below meth cd H1 locs1 cells slots Q (F0 m (pc + 1) ls r)) : W p l e R s m args below meth cd H locs cells slots Q (F0 m pc ls (.int v :: .int u :: .ref q :: r)) := by
  obtain ⟨hx, hb, hml, hown, hts, hnw, hK, -⟩ := C0
  by_cases h7 : oc = 7
  · have e1 : ev_bt oc = 2 := by unfold ev_bt; rw [if_pos h7]
    have e2 : ev_bn oc v = vp_nar .boolean v := by unfold ev_bn; rw [if_pos h7]
    rw [e1] at hf kk
    rw [e2] at kk
    refine W.zast hx hb (hJ.2.1.s hf) ((hK.2 2 _ rfl).1 z (fun j => .int (g j))) (fun q => by cases q) (by show ¬ (u < 0 ∨ (arrV _ _ _).slots.size ≤ _); rw [arrV_size]; exact hin) rfl rfl hd fun H1 e z oq => ?_
    refine kk H1 _ (hJ.set hf mh_em_i z oq ?_ (mh_T1.i 2 rfl))
    show H1[q]? = some (vp_cell _ _)
    rw [e]
    rw [vp_cell_i, vp_cell_i, arrV_store]
    congr 2
    funext j
    by_cases hj : j = u.toNatClampNeg
    · subst hj
      simp [updV, upd, vp_nar]
      try rfl
    · simp [updV, upd, hj]
  · have e1 : ev_bt oc = 0 := by unfold ev_bt; rw [if_neg h7]
    have e2 : ev_bn oc v = vp_nar .byte v := by unfold ev_bn; rw [if_neg h7]
    rw [e1] at hf kk
    rw [e2] at kk
    refine W.bast hx hb (hJ.2.1.s hf) ((hK.2 0 _ rfl).1 z (fun j => .int (g j))) (fun q => by cases q) (by show ¬ (u < 0 ∨ (arrV _ _ _).slots.size ≤ _); rw [arrV_size]; exact hin) rfl rfl hd fun H1 e z oq => ?_
    refine kk H1 _ (hJ.set hf mh_em_i z oq ?_ (mh_T1.i 0 rfl))
    show H1[q]? = some (vp_cell _ _)
    rw [e]
    rw [vp_cell_i, vp_cell_i, arrV_store]
    congr 2
    funext j
    by_cases hj : j = u.toNatClampNeg
    · subst hj
      simp [updV, upd, vp_nar]
      try rfl
    · simp [updV, upd, hj]
theorem es_last (C0 : ev_C p s m args meth cd D cy z0 oc kd nl bytes) (hJ : ev_J D cy z0 s.heap f n H locs) {q z : Nat} {g : Nat → Int64} {u : Int32} {v : Int64} (hf : f q = some (.inl (cy 3, z, .inr (.inl g)))) (hin : vp_in u z) (hd : decode bytes pc = .ok (.lastore, 1))
    (kk : ∀ (H1 : Heap) (locs1 : List Loc), ev_J D cy z0 s.heap (va_up f q (some (.inl (cy 3, z, .inr (.inl (vp_updL g u.toNatClampNeg v)))))) n H1 locs1 → W p l e R s m args below meth cd H1 locs1 cells slots Q (F0 m (pc + 1) ls r)) : W p l e R s m args below meth cd H locs cells slots Q (F0 m pc ls (.long v :: .int u :: .ref q :: r)) := by
  obtain ⟨hx, hb, hml, hown, hts, hnw, hK, -⟩ := C0
  refine W.last hx hb (hJ.2.1.s hf) ((hK.2 3 _ rfl).1 z (fun j => .long (g j))) (fun q => by cases q) (by show ¬ (u < 0 ∨ (arrV _ _ _).slots.size ≤ _); rw [arrV_size]; exact hin) rfl rfl hd fun H1 e z oq => ?_
  refine kk H1 _ (hJ.set hf mh_em_l z oq ?_ (mh_T1.l 3 rfl))
  show H1[q]? = some (vp_cell _ _)
  rw [e]
  rw [vp_cell_l, vp_cell_l, arrV_store]
  congr 2
  funext j
  by_cases hj : j = u.toNatClampNeg
  · subst hj
    simp [updV, vp_updL]
  · simp [updV, vp_updL, hj]
end ER
