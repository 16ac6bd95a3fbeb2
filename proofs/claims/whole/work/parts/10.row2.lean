/-! THE INSTRUCTIONS ARE SOUND: what is made, references stored, calls -/
theorem ev_ct_s {oc idx ci : Nat} (h : ev_ct.contains (oc, idx, ci) = true) : ∃ C T N, vwCl[ci]? = some (C, T, N) ∧ Cond.classLink (ev_on oc) idx C ∈ lw_tbl ∧ Cond.instantiable C N ∈ lw_tbl ∧ Cond.initialized C ∈ lw_tbl ∧ N = ev_nf ci := by
  obtain ⟨⟨r, i1, i2, i3⟩, hz, he⟩ := ev_ct_in Prod.fst ev_cz_ct (List.contains_iff_mem.mp h)
  have hk := List.all_eq_true.mp ev_cz_ok _ hz
  dsimp only at he
  subst he
  unfold ev_cokb at hk
  dsimp only at hk
  split at hk
  · cases hk
  · next C T N hc =>
    simp only [Bool.and_eq_true] at hk
    obtain ⟨⟨⟨h1, h2⟩, h3⟩, h4⟩ := hk
    exact ⟨C, T, N, hc, ev_wd_s h1, ev_wd_s h2, ev_wd_s h3, of_decide_eq_true h4⟩
theorem ev_qt_s {oc idx t : Nat} (h : ev_qt.contains (oc, idx, t) = true) : (4 ≤ t ∧ t ≤ 8) ∧ Cond.classLink (ev_on oc) idx (ev_qn t) ∈ lw_tbl ∧ Cond.arrayOver (.object (ev_qn t)) ∈ lw_tbl := by
  obtain ⟨⟨r, i1, i2⟩, hz, he⟩ := ev_ct_in Prod.fst ev_qz_qt (List.contains_iff_mem.mp h)
  have hk := List.all_eq_true.mp ev_qz_ok _ hz
  dsimp only at he
  subst he
  unfold ev_qokb at hk
  dsimp only at hk
  simp only [Bool.and_eq_true] at hk
  exact ⟨of_decide_eq_true hk.1.1, ev_wd_s hk.1.2, ev_wd_s hk.2⟩
theorem ev_kt_s {oc idx : Nat} {w : Int32} (h : ev_kt.contains (oc, idx, w) = true) : Cond.constant (ev_on oc) idx w ∈ lw_tbl := by
  obtain ⟨⟨r, i1⟩, hz, he⟩ := ev_ct_in Prod.fst ev_kz_kt (List.contains_iff_mem.mp h)
  have hk := List.all_eq_true.mp ev_kz_ok _ hz
  dsimp only at he
  subst he
  exact ev_wd_s hk
theorem ev_qn_t {cy : Nat → ClassId} {t : Nat} (h : 4 ≤ t ∧ t ≤ 8) : (ev_tyl cy)[t]? = some (cy t, .object (ev_qn t)) := by
  obtain ⟨h1, h2⟩ := h
  match t, h1, h2 with
  | 4, _, _ => rfl
  | 5, _, _ => rfl
  | 6, _, _ => rfl
  | 7, _, _ => rfl
  | 8, _, _ => rfl
section ER2
variable {p : Program} {l : Launch} {e : Env} {R : Room} {s : State} {m : MethodId} {args : Array Value} {below : List Frame} {meth : Method} {cd : Code} {H : Heap} {locs : List Loc} {cells slots : Nat} {Q : State → Prop}
variable {D : va_G} {cy : Nat → ClassId} {z0 oc kd nl : Nat} {bytes : ByteArray} {f : ev_H} {n pc : Nat} {ls : Array Slot} {r : List Value}
theorem es_new (C0 : ev_C p s m args meth cd D cy z0 oc kd nl bytes) (hJ : ev_J D cy z0 s.heap f n H locs) {a k : Nat} (ho : ev_ct.contains (oc, k, a) = true) (hc1 : cells + 1 ≤ R.cells) (hs1 : slots + ev_nf a ≤ R.slots) (hd : decode bytes pc = .ok (.new k, 3))
    (kk : ∀ (H1 : Heap), ev_J D cy z0 s.heap (va_up f n (some (.inr (a, ev_new a)))) (n + 1) H1 locs → W p l e R s m args below meth cd H1 locs (cells + 1) (slots + ev_nf a) Q (F0 m (pc + 3) ls (.ref n :: r))) : W p l e R s m args below meth cd H locs cells slots Q (F0 m pc ls r) := by
  obtain ⟨hx, hb, hml, hown, hts, hnw, hK, hz, -⟩ := C0
  obtain ⟨C, T, N, hc, w1, w2, w3, hN⟩ := ev_ct_s ho
  obtain ⟨hty, hnm, -⟩ := ev_ty_s hc
  subst hN
  have hKn := hK.1 a _ hc
  have hn := hJ.1
  refine W.newcK hx hb hown (hts _ (ev_gw_in w1 rfl)) (hts _ (ev_gw_in w2 rfl)) (hts _ (ev_gw_in w3 rfl)) rfl hd hc1 hs1 hKn.2.1 hn fun H1 kC hkC e1 z1 o1 => ?_
  subst hn
  refine kk H1 (hJ.push hz z1 o1 ?_ mh_T1.ob)
  refine ⟨_, hc, (u_born (ev_ty a) hts (ev_lay_s hc) hKn hkC e1 hty).to fun j hj => ?_⟩
  unfold vp_V ev_new
  rw [List.getD_eq_getElem?_getD, List.getElem?_map, List.getElem?_range hj]
  rfl
theorem es_newi (C0 : ev_C p s m args meth cd D cy z0 oc kd nl bytes) (hJ : ev_J D cy z0 s.heap f n H locs) {ty : ArrayType} {t N : Nat} {u : Int32} {cb : Nat} (hn0 : ¬ u < 0) (hN : u.toNatClampNeg = N) (hc1 : cells + 1 ≤ R.cells) (hs1 : slots + N ≤ R.slots) (hd : decode bytes pc = .ok (.newarray ty, 2))
    (hw : Cond.arrayClass (newarray.typeOf ty) ∈ lw_tbl) (ht : (ev_tyl cy)[t]? = some (cy t, newarray.typeOf ty)) (hRA : va_RA s (cy t) (newarray.typeOf ty) → s.vm.findClass ("[" ++ (newarray.typeOf ty).toString) = some (cy t)) (hcb : componentBytes (newarray.typeOf ty) = cb) (hby : N * cb ≤ 536870912)
    {g : (Nat → Int32) ⊕ (Nat → Int64) ⊕ (Nat → UInt32) ⊕ (Nat → UInt64) ⊕ (Nat → Option Nat)} (hg : vp_cell (cy t) (N, g) = arrV (cy t) N (fun _ => defaultValue (newarray.typeOf ty))) (hT : mh_T1 cy (.inl (cy t, N, g)))
    (kk : ∀ (H1 : Heap), ev_J D cy z0 s.heap (va_up f n (some (.inl (cy t, N, g)))) (n + 1) H1 locs → W p l e R s m args below meth cd H1 locs (cells + 1) (slots + N) Q (F0 m (pc + 2) ls (.ref n :: r))) : W p l e R s m args below meth cd H locs cells slots Q (F0 m pc ls (.int u :: r)) := by
  obtain ⟨hx, hb, hml, hown, hts, hnw, hK, hz, -⟩ := C0
  have hn := hJ.1
  refine va_newaK hx hb (hts _ (ev_gw_in hw rfl)) rfl hd rfl hn0 hN (by rw [hcb]; exact hby) hc1 hs1 hn fun H1 cA e1 z1 o1 hAr hNm => ?_
  have hcA : cA = cy t := Option.some.inj (hNm.symm.trans (hRA (hK.2 t _ ht).2))
  subst hcA
  subst hn
  refine kk H1 (hJ.push hz z1 o1 ?_ hT)
  show H1[H.size]? = some (vp_cell _ _)
  rw [hg]
  exact e1
theorem es_anew (C0 : ev_C p s m args meth cd D cy z0 oc kd nl bytes) (hJ : ev_J D cy z0 s.heap f n H locs) {k t : Nat} {u : Int32} (ho : ev_qt.contains (oc, k, t) = true) (hn0 : ¬ u < 0) (hc1 : cells + 1 ≤ R.cells) (hs1 : slots + u.toNatClampNeg ≤ R.slots) (hby : u.toNatClampNeg * 4 ≤ 536870912) (hd : decode bytes pc = .ok (.anewarray k, 3))
    (kk : ∀ (H1 : Heap), ev_J D cy z0 s.heap (va_up f n (some (.inl (cy t, u.toNatClampNeg, .inr (.inr (.inr (.inr fun _ => none))))))) (n + 1) H1 locs → W p l e R s m args below meth cd H1 locs (cells + 1) (slots + u.toNatClampNeg) Q (F0 m (pc + 3) ls (.ref n :: r))) : W p l e R s m args below meth cd H locs cells slots Q (F0 m pc ls (.int u :: r)) := by
  obtain ⟨hx, hb, hml, hown, hts, hnw, hK, hz, -⟩ := C0
  obtain ⟨h48, w1, w2⟩ := ev_qt_s ho
  have ht := ev_qn_t (cy := cy) h48
  have hn := hJ.1
  refine W.anew hx hb hown (hts _ (ev_gw_in w1 rfl)) (va_AO.use (hnw _ (ev_nw_in w2 rfl))) rfl hd rfl hn0 hby hc1 hs1 fun cA kA comp f1 f2 f3 f4 => ?_
  obtain ⟨kA', comp', -, -, -, k4⟩ := (hK.2 t _ ht).2
  have hcA : cA = cy t := Option.some.inj (f1.symm.trans k4)
  subst hcA
  subst hn
  refine kk _ (hJ.push hz (Array.size_push _) (fun q hq => by rw [Array.getElem?_push, if_neg (Nat.ne_of_lt hq)]) ?_ (mh_T1.q t ht))
  show _ = some (vp_cell _ _)
  rw [vp_cell_q, Array.getElem?_push_size]
  exact congrArg some (arrV_new _ _ _)
theorem es_aastN (C0 : ev_C p s m args meth cd D cy z0 oc kd nl bytes) (hJ : ev_J D cy z0 s.heap f n H locs) {q z t : Nat} {C : String} {g : Nat → Option Nat} {u : Int32} (hf : f q = some (.inl (cy t, z, .inr (.inr (.inr (.inr g)))))) (ht : (ev_tyl cy)[t]? = some (cy t, .object C)) (hin : vp_in u z) (hd : decode bytes pc = .ok (.aastore, 1))
    (kk : ∀ (H1 : Heap) (locs1 : List Loc), ev_J D cy z0 s.heap (va_up f q (some (.inl (cy t, z, .inr (.inr (.inr (.inr (va_up g u.toNatClampNeg none)))))))) n H1 locs1 → W p l e R s m args below meth cd H1 locs1 cells slots Q (F0 m (pc + 1) ls r)) : W p l e R s m args below meth cd H locs cells slots Q (F0 m pc ls (.null :: .int u :: .ref q :: r)) := by
  obtain ⟨hx, hb, hml, hown, hts, hnw, hK, hz, -⟩ := C0
  refine va_WaastN (C := C) hx hb (hJ.2.1.s hf (mh_ns_q (fun q => hin (Or.inr (by rw [q]; exact Nat.zero_le _))))) ((hK.2 t _ ht).1 z (fun j => va_rf (g j))) (fun h => by cases h) (by show ¬ (u < 0 ∨ (arrV _ _ _).slots.size ≤ _); rw [arrV_size]; exact hin) rfl rfl hd fun H1 e z oq => ?_
  refine kk H1 _ (hJ.set hf (mh_em_q hin) z oq ?_ (mh_T1.q t ht))
  show H1[q]? = some (vp_cell _ _)
  rw [e]
  rw [vp_cell_q, vp_cell_q, arrV_store]
  congr 2
  funext j
  by_cases hj : j = u.toNatClampNeg
  · subst hj
    simp [updV, va_up, va_rf]
  · simp [updV, va_up, hj]
theorem es_aast (C0 : ev_C p s m args meth cd D cy z0 oc kd nl bytes) (hJ : ev_J D cy z0 s.heap f n H locs) {q z t v ci : Nat} {C : String} {cC : vw_C} {vs : List Value} {g : Nat → Option Nat} {u : Int32} (hf : f q = some (.inl (cy t, z, .inr (.inr (.inr (.inr g)))))) (ht : (ev_tyl cy)[t]? = some (cy t, .object C)) (hv : f v = some (.inr (ci, vs))) (hci : vwCl[ci]? = some cC) (hcast : C = cC.1 ∨ Cond.castable cC.1 C ∈ lw_tbl) (hin : vp_in u z) (hd : decode bytes pc = .ok (.aastore, 1))
    (kk : ∀ (H1 : Heap) (locs1 : List Loc), ev_J D cy z0 s.heap (va_up f q (some (.inl (cy t, z, .inr (.inr (.inr (.inr (va_up g u.toNatClampNeg (some v))))))))) n H1 locs1 → W p l e R s m args below meth cd H1 locs1 cells slots Q (F0 m (pc + 1) ls r)) : W p l e R s m args below meth cd H locs cells slots Q (F0 m pc ls (.ref v :: .int u :: .ref q :: r)) := by
  obtain ⟨hx, hb, hml, hown, hts, hnw, hK, hz, -⟩ := C0
  have hlt : u.toNatClampNeg < z := Nat.not_le.mp fun q => hin (Or.inr q)
  have h0 : ¬ u < 0 := fun q => hin (Or.inl q)
  obtain ⟨r', hr', cellV, g1, g2, g3, -⟩ := hJ.2.1.s hv
  have hcls := (hK.1 ci cC hci).2
  obtain ⟨kA, comp, k1, k2, k3, -⟩ := (hK.2 t _ ht).2
  obtain ⟨kC, hkC, -⟩ := hcls.2
  have hcomp : (∃ kc, s.vm.classes[comp]? = some kc) ∧ s.vm.assignable (D.1 ci) comp = true := by
    rcases hcast with rfl | hcw
    · have hcomp : comp = D.1 ci := Option.some.inj (k3.symm.trans hcls.1)
      subst hcomp
      exact ⟨⟨kC, hkC⟩, va_assign hcls⟩
    · obtain ⟨c3, c4, hc3, hc4, hasg⟩ := Cond.castable_spec (va_Nw.use (A := args) rfl (hnw _ (ev_nw_in hcw rfl)))
      have e1 : c3 = D.1 ci := Option.some.inj (hc3.symm.trans hcls.1)
      have e2 : c4 = comp := Option.some.inj (hc4.symm.trans k3)
      subst e1; subst e2
      obtain ⟨k9, h9, -⟩ := Vm.findClass_spec k3
      exact ⟨⟨k9, h9⟩, hasg⟩
  obtain ⟨⟨kc, hkc⟩, hasg⟩ := hcomp
  refine W.aast hx hb (hJ.2.1.s hf (mh_ns_q (fun q => hin (Or.inr (by rw [q]; exact Nat.zero_le _))))) (fun q h => by cases h) (fun h => by cases h) k1 k2 rfl hkc ⟨h0, by show _ < (arrV _ _ _).slots.size; rw [arrV_size]; exact hlt⟩ g1 (fun q h => by rw [g3] at h; cases h) (by rw [g2]; exact hkC) (by rw [g2]; exact hasg) rfl rfl hd fun H1 e z oq => ?_
  refine kk H1 _ (hJ.set hf (mh_em_q hin) z oq ?_ (mh_T1.q t ht))
  show H1[q]? = some (vp_cell _ _)
  rw [e]
  rw [vp_cell_q, vp_cell_q, arrV_store]
  congr 2
  funext j
  by_cases hj : j = u.toNatClampNeg
  · subst hj
    simp [updV, va_up, va_rf]
  · simp [updV, va_up, hj]
end ER2
