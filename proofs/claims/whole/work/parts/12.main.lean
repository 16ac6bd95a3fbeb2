/-! A STATE OF A BODY, AND THAT THE INSTRUCTIONS KEEP IT -/
theorem ev_co_n {oc : Nat} {r : vw_C} (h : vwCl[ev_co oc]? = some r) : r.1 = ev_on oc := by
  match oc, h with
  | 0, h => cases h; rfl
  | 1, h => cases h; rfl
  | 2, h => cases h; rfl
  | 3, h => cases h; rfl
  | 4, h => cases h; rfl
  | 5, h => cases h; rfl
  | 6, h => cases h; rfl
  | 7, h => cases h; rfl
  | 8, h => cases h; rfl
  | k + 9, h =>
    exfalso
    have h1 : ev_co (k + 9) < vwCl.length := (List.getElem?_eq_some_iff.mp h).1
    unfold ev_co at h1
    rw [if_neg (by omega)] at h1
    have : vwCl.length = 9 := rfl
    omega
theorem ev_rcv_1 {f : ev_H} {oc : Nat} {as : List Value} (h : ev_rcv 1 f oc as) : ∃ q As, as = .ref q :: As ∧ ev_ob (f q) (ev_co oc) fun _ => True := by
  match as, h with
  | .ref q :: As, h => exact ⟨q, As, rfl, h⟩
theorem ev_rcv_2 {f : ev_H} {oc : Nat} {as : List Value} (h : ev_rcv 2 f oc as) : ∃ q As, as = .ref q :: As := by
  match as, h with
  | .ref q :: As, h => exact ⟨q, As, rfl⟩
section EM
variable {p : Program} {l : Launch} {e : Env} {R : Room} {s : State} {m : MethodId} {args : Array Value} {below : List Frame} {meth : Method} {cd : Code} {Q : State → Prop}
variable {D : va_G} {cy : Nat → ClassId} {z0 oc kd nl mc ms d : Nat} {bytes : ByteArray} {rt : Option FieldType} {code : List ev_I} {call : Nat → List Value → ev_H → Nat → ev_P → Prop} {sp : ev_F → (ev_F → Prop) → Prop} {Ret : ev_P}
def ev_W (p : Program) (l : Launch) (e : Env) (R : Room) (s : State) (m : MethodId) (args : Array Value) (below : List Frame) (meth : Method) (cd : Code) (D : va_G) (cy : Nat → ClassId) (z0 nl mc ms : Nat) (Q : State → Prop) (g : ev_F) : Prop := match g with
  | (pc, L, st, f, n, c, sl) => ∀ (H : Heap) (ls : Array Slot) (locs : List Loc), ev_J D cy z0 s.heap f n H locs → lv_has ls nl L → (∀ q ∈ L, q.2.category = 1) → c ≤ mc → sl ≤ ms → W p l e R s m args below meth cd H locs c sl Q (F0 m pc ls st)
/-- what a return owes -/
def ev_Rt (p : Program) (l : Launch) (e : Env) (R : Room) (s : State) (m : MethodId) (args : Array Value) (below : List Frame) (meth : Method) (cd : Code) (D : va_G) (cy : Nat → ClassId) (z0 mc ms : Nat) (rt : Option FieldType) (bytes : ByteArray) (Ret : ev_P) (Q : State → Prop) : Prop :=
  ∀ (v : Option Value) (f : ev_H) (n : Nat) (H : Heap) (ls : Array Slot) (locs : List Loc) (pc c sl : Nat) (i : Instr), Ret v f n → ev_J D cy z0 s.heap f n H locs → c ≤ mc → sl ≤ ms → decode bytes pc = .ok (i, 1) →
    ((i = .ireturn ∧ ∃ k ty, v = some (.int k) ∧ rt = some ty ∧ narrow ty (.int k) = .int k) ∨ (i = .areturn ∧ ∃ q ty, v = some (va_rf q) ∧ rt = some ty ∧ ((∃ n, ty = .object n) ∨ ∃ t, ty = .array t)) ∨ (i = .return_ ∧ v = none ∧ rt = none)) →
    W p l e R s m args below meth cd H locs c sl Q (F0 m pc ls v.toList)
theorem es_inv (C0 : ev_C p s m args meth cd D cy z0 oc kd nl bytes) (hcall : ∀ m as f n Post md code, call m as f n Post → ev_ms[m]? = some (md, code) → ev_Mt l D cy z0 d md as f n Post) (hR : d + 1 ≤ R.frames ∧ 36 * d + 36 ≤ R.locals) (hRc : mc ≤ R.cells) (hRs : ms ≤ R.slots)
    {pc a k b : Nat} {L : List (Nat × Value)} {st : List Value} {f : ev_H} {n c sl way : Nat} {Y : ev_F → Prop} (hY : ∀ h, Y h → ev_W p l e R s m args below meth cd D cy z0 nl mc ms Q h) (h : ev_inv call mc ms Y (pc, L, st, f, n, c, sl) a way) (ho : ev_mt.contains (oc, k, a, b) = true)
    (hw : (way = 0 ∧ (b = 0 ∨ b = 3) ∧ decode bytes pc = .ok (.invokestatic k, 3)) ∨ (way = 2 ∧ b = 2 ∧ decode bytes pc = .ok (.invokespecial k, 3)) ∨ (way = 1 ∧ b = 1 ∧ decode bytes pc = .ok (.invokevirtual k, 3))) : ev_W p l e R s m args below meth cd D cy z0 nl mc ms Q (pc, L, st, f, n, c, sl) := by
  have hb567 : b ≠ 5 ∧ b ≠ 6 ∧ b ≠ 7 := by rcases hw with ⟨-, h | h, -⟩ | ⟨-, h, -⟩ | ⟨-, h, -⟩ <;> (subst h; exact ⟨by decide, by decide, by decide⟩)
  obtain ⟨md, cde, hm, hini, h0, h1, h2, h3⟩ := (ev_mt_s ho).2.2.2 hb567.1 hb567.2.1 hb567.2.2
  have hmem : (md, cde) ∈ ev_ms := List.mem_of_getElem? hm
  unfold ev_inv at h
  rw [hm] at h
  obtain ⟨y, bs, nl', rt', oc', na, kd', dc, ds⟩ := md
  dsimp only at h
  obtain ⟨as, r, hlen, rfl, hsum, hcc, hss, hrc, hcl⟩ := ev_pop_s h
  rw [List.append_nil] at hrc hcl
  have hM := hcall _ _ _ _ _ _ _ hcl hm
  obtain ⟨hx, hb, hml, hown, hts, hnw, hK, hz, hin, hst0⟩ := id C0
  intro H ls locs hJ hl hc1 hcm hsm
  have hf : c + dc ≤ R.cells ∧ sl + ds ≤ R.slots := ⟨Nat.le_trans hcc hRc, Nat.le_trans hss hRs⟩
  have fin : ∀ (v : Option Value) (f' : ev_H) (n' : Nat) (H1 : Heap) (locs1 : List Loc), Y (pc + 3, L, v.toList ++ r, f', n', c + dc, sl + ds) → ev_J D cy z0 s.heap f' n' H1 locs1 → W p l e R s m args below meth cd H1 locs1 (c + dc) (sl + ds) Q (F0 m (pc + 3) ls (v.toList ++ r)) := fun v f' n' H1 locs1 hp hJ1 => hY _ hp H1 ls locs1 hJ1 hl hc1 hcc hss
  rcases hw with ⟨hw, hbb, hd⟩ | ⟨hw, hbb, hd⟩ | ⟨hw, hbb, hd⟩
  · subst hw
    rw [if_pos rfl] at hlen
    rcases hbb with hbb | hbb
    · obtain ⟨w1, w2⟩ := h0 hbb
      exact es_run (va_runS ⟨hx, hb, hml, hown, hts⟩ hM ⟨es_cb hts hmem hini w1 hR, hts _ (ev_gw_in w2 rfl)⟩ ⟨ev_blind, es_pre C0 hJ as⟩ rfl hlen hl.1 rfl (lv_room hsum) hd hf) hJ fin
    · obtain ⟨w1, w2⟩ := h3 hbb
      obtain ⟨-, g2, g3, g4, g5, -⟩ := ev_mdb_s hmem
      exact es_run (va_runSN ⟨hx, hb, hml, hown, hts⟩ hM ⟨va_cnB _ hts (ev_good hmem) rfl rfl rfl (hnw _ (ev_nw_in w1 rfl)) (hts _ (ev_gw_in hini rfl)) ⟨g2, g3, g4⟩ ⟨hR.1, by show 8 + (nl' + 11) + 36 * d ≤ R.locals; have : nl' ≤ 17 := g5; omega⟩, hts _ (ev_gw_in w2 rfl), trivial⟩ ⟨ev_blind, es_pre C0 hJ as⟩ rfl hlen hl.1 rfl (lv_room hsum) hd hf) hJ fin
  · subst hw
    rw [if_neg (by decide)] at hlen
    obtain ⟨w1, w2, w3⟩ := h2 hbb
    obtain ⟨q, As, rfl⟩ := ev_rcv_2 hrc
    have hrt : rt' = none := ev_init_rt hmem w3
    subst hrt
    exact es_run (va_runI (b := q) (As := As) ⟨hx, hb, hml, hown, hts⟩ hM ⟨es_cb hts hmem hini w1 hR, w3, hts _ (ev_gw_in w2 rfl)⟩ ⟨ev_blind, es_pre C0 hJ (.ref q :: As)⟩ rfl (by simpa using hlen) hl.1 (by simp) (lv_room hsum) hd hf) hJ fin
  · subst hw
    rw [if_neg (by decide)] at hlen
    obtain ⟨w1, w2, w3⟩ := h1 hbb
    obtain ⟨q, As, rfl, hrc⟩ := ev_rcv_1 hrc
    obtain ⟨fs, hfq, -⟩ := ev_ob_s hrc
    obtain ⟨cC, hcC, -⟩ := id (hJ.2.1.s hfq)
    have hnm : cC.1 = y.cls := (ev_co_n hcC).trans (ev_mdb_s hmem).2.2.2.2.2.1.symm
    exact es_run (va_runV (C := y.cls) (b := q) (As := As) ⟨hx, hb, hml, hown, hts⟩ hM ⟨es_cb hts hmem hini w1 hR, hts _ (ev_gw_in w2 rfl), hts _ (ev_gw_in w3 rfl)⟩ ⟨ev_blind, by rw [← hnm]; exact va_recv hK (mh_one hJ.2.1 hfq) hcC (q0 := 0) rfl, es_pre C0 hJ (.ref q :: As)⟩ rfl (by simpa using hlen) hl.1 (by simp) (lv_room hsum) hd hf) hJ fin
end EM
