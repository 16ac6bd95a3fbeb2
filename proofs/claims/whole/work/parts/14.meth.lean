/-! BODIES AND METHODS: the least predicate that the steps keep; a method's contract out of it -/
section ERR
variable (cy : Nat → ClassId) (call : Nat → List Value → ev_H → Nat → ev_P → Prop) (sp : ev_F → (ev_F → Prop) → Prop) (oc mc ms nl : Nat) (rt : Option FieldType) (code : List ev_I) (Ret : ev_P)
def ev_R (g : ev_F) : Prop := ∀ X : ev_F → Prop, (∀ (g' : ev_F) (Y : ev_F → Prop), (∀ h, Y h → X h) → ev_step cy call sp oc mc ms nl rt code Y Ret g' → X g') → X g
end ERR
theorem ev_R.step {cy : Nat → ClassId} {call : Nat → List Value → ev_H → Nat → ev_P → Prop} {sp : ev_F → (ev_F → Prop) → Prop} {oc mc ms nl : Nat} {rt : Option FieldType} {code : List ev_I} {Ret : ev_P} {g : ev_F} (h : ev_step cy call sp oc mc ms nl rt code (ev_R cy call sp oc mc ms nl rt code Ret) Ret g) : ev_R cy call sp oc mc ms nl rt code Ret g := fun X hX => hX g _ (fun _ hh => hh X hX) h
/-- a method at depth d: by what is told of it from outside, or by its own body -/
def ev_M (cy : Nat → ClassId) (ext : Nat → Nat → List Value → ev_H → Nat → ev_P → Prop) : Nat → Nat → List Value → ev_H → Nat → ev_P → Prop
  | 0 => fun _ _ _ _ _ => False
  | d + 1 => fun m as f n Post => ext d m as f n Post ∨ match ev_ms[m]? with
    | none => False
    | some ((_, _, nl, rt, oc, _, _, mc, ms), code) => (as.all (fun v => v.category == 1) && decide (as.length ≤ nl)) = true ∧ ev_R cy (ev_M cy ext d) (fun _ _ => False) oc mc ms nl rt code Post (0, lv_args 0 as, [], f, n, 0, 0)
theorem ev_args_m : ∀ {as : List Value} {i : Nat} {q : Nat × Value}, q ∈ lv_args i as → q.2 ∈ as
  | [], _, _, h => by cases h
  | v :: vs, i, q, h => by
    rcases List.mem_cons.mp h with rfl | h
    · exact List.mem_cons_self
    · exact List.mem_cons_of_mem _ (ev_args_m h)
theorem ev_sl_len : ∀ {as : List Value}, (∀ v ∈ as, v.category = 1) → (lg_sl as).length = as.length
  | [], _ => rfl
  | v :: vs, h => by
    have h1 := ev_sl_len (as := vs) (fun v hv => h v (List.mem_cons_of_mem _ hv))
    have h2 := h v List.mem_cons_self
    unfold lg_sl at h1 ⊢
    rw [List.flatMap_cons, List.length_append, h1, if_neg (by rw [h2]; decide)]
    simp [Nat.add_comm]
section EMS
variable {l : Launch} {D : va_G} {cy : Nat → ClassId} {z0 : Nat}
theorem ev_Rt_M {p : Program} {e : Env} {R : Room} {s : State} {m : MethodId} {args : Array Value} {below : List Frame} {meth : Method} {cd : Code} {oc kd nl mc ms : Nat} {bytes : ByteArray} {rt : Option FieldType} {Post : ev_P} (C0 : ev_C p s m args meth cd D cy z0 oc kd nl bytes) (hr : meth.sig.returnType = rt) (hlocks : meth.locks = false) :
    ev_Rt p l e R s m args below meth cd D cy z0 mc ms rt bytes Post (MQ below (ev_Qc D cy z0 Post) args s mc ms (fun q => z0 ≤ q)) := by
  obtain ⟨hx, hb, hml, hown, hts, hnw, hK, hz, hin, hst0⟩ := id C0
  intro v f n H ls locs pc c sl i hret hJ hc hs hd hi
  have hq : ∀ t : State, t.heap = H → s.WarmedH t.vm → ev_Qc D cy z0 Post args s (.returned v) t := by
    intro t ht hW
    exact ⟨v, f, n, rfl, hret, ⟨by rw [ht]; exact hJ.1, by rw [ht]; exact hJ.2.1, hJ.2.2.1, hJ.2.2.2.1, by rw [← hJ.1]; exact Nat.le_trans hz hJ.2.2.2.2.1, va_K.moved hW.alike hK, fun w hw => ev_nw_warm (List.mem_filter.mp hw).2 hW (hnw w hw), by rw [ht]; exact (hst0.kept hJ.2.2.2.2.2.1).moved hW.alike⟩, hJ.2.2.2.2.F ht⟩
  refine W.widen (k := mc) (n := ms) hc hs ?_
  rcases hi with ⟨rfl, k, ty, rfl, rfl, hn⟩ | ⟨rfl, q, ty, rfl, rfl, hty⟩ | ⟨rfl, rfl, rfl⟩
  · exact W.zret hx hb hr hn hq hJ.2.2.2.2.2.2 hd hlocks
  · exact W.aret hx hb hr hty (by cases q with | none => exact Or.inl rfl | some q => exact Or.inr ⟨q, rfl⟩) hq hJ.2.2.2.2.2.2 hd hlocks
  · exact W.vret hx hb hr hq hJ.2.2.2.2.2.2 hd hlocks
theorem ev_M_sound {ext : Nat → Nat → List Value → ev_H → Nat → ev_P → Prop} (hext : ∀ d m as f n Post md code, ext d m as f n Post → ev_ms[m]? = some (md, code) → ev_Mt l D cy z0 (d + 1) md as f n Post) :
    ∀ d m as f n Post md code, ev_M cy ext d m as f n Post → ev_ms[m]? = some (md, code) → ev_Mt l D cy z0 d md as f n Post := by
  intro d
  induction d with
  | zero => intro m as f n Post md code h; exact h.elim
  | succ d ih =>
    intro m as f n Post md code h hm
    rcases h with h | h
    · exact hext d m as f n Post md code h hm
    rw [hm] at h
    have hmem : (md, code) ∈ ev_ms := List.mem_of_getElem? hm
    obtain ⟨y, bytes, nl, rt, oc, na, kd, mc, ms⟩ := md
    obtain ⟨hca, hR⟩ := h
    rw [Bool.and_eq_true] at hca
    have hcat : ∀ v ∈ as, v.category = 1 := fun v hv => eq_of_beq (List.all_eq_true.mp hca.1 v hv)
    have hln : as.length ≤ nl := of_decide_eq_true hca.2
    obtain ⟨g1, g2, g3, g4, g5, g6, g7⟩ := ev_mdb_s hmem
    obtain ⟨-, hok⟩ := ev_ms_ok _ hmem
    refine Met.ofW (cc := bytes) (maxL := nl) (ret := rt) g1 rfl ?_
    intro p e s mm args below meth c s₁ B hml hv
    obtain ⟨rfl, hn, hP, hdom, hT, hz, hK, hnw, hst0⟩ := hv
    have hts0 := atoms_spec (ws := ev_ws (y, bytes, nl, rt, oc, na, kd, mc, ms)) B.pre
    have hts : ∀ w ∈ ev_gw, w.before as.toArray s = true := fun w hw => hts0 w (List.mem_cons_of_mem _ hw)
    have hown : s.vm.findClass (ev_on oc) = some mm.cls := by
      have := findClass_of_methodNamed B.named
      rw [show y.cls = ev_on oc from g6] at this
      exact this
    have hin : kd = 2 → meth.name = "<init>" := fun hk => (name_of_methodNamed B.named B.method).1.trans (g7 hk)
    have C0 : ev_C p s mm as.toArray meth c D cy z0 oc kd nl bytes := ⟨B.exec, B.bytes, hml, hown, hts, hnw, hK, by rw [hn]; exact hz, hin, hst0⟩
    have hl := lv_entry as (n := nl) (by rw [ev_sl_len hcat]; exact hln)
    rw [lg_entry_eq]
    have hW : ev_W p l e (ev_rm (d + 1) (y, bytes, nl, rt, oc, na, kd, mc, ms)) s mm as.toArray below meth c D cy z0 nl mc ms (MQ below (ev_Qc D cy z0 Post) as.toArray s mc ms (fun q => z0 ≤ q)) (0, lv_args 0 as, [], f, n, 0, 0) :=
      hR _ (fun g' Y hY hs => ev_step_sound (d := d) C0 hok ih ⟨Nat.le_refl _, Nat.le_refl _⟩ (Nat.le_refl _) (Nat.le_refl _) (ev_Rt_M C0 B.returns B.notSynchronized) (fun _ _ _ h => h.elim) hY hs)
    exact hW s.heap _ [] ⟨hn, hP, hdom, hT, va_S.rf⟩ hl (fun q hq => hcat _ (ev_args_m hq)) (Nat.zero_le _) (Nat.zero_le _)
end EMS
