/-! THE WORLD AT THE LAW'S START -/
set_option maxRecDepth 100000 in
theorem st_inst {ci : Nat} {q : vw_C} (hc : vwCl[ci]? = some q) : ∃ n, Cond.instantiable q.1 n ∈ lw_tbl := by
  have hci : ci < 9 := (List.getElem?_eq_some_iff.mp hc).1
  match ci, hc with
  | 0, hc => cases hc; exact ⟨3, List.mem_of_getElem? (i := 246) (by rfl)⟩
  | 1, hc => cases hc; exact ⟨15, List.mem_of_getElem? (i := 97) (by rfl)⟩
  | 2, hc => cases hc; exact ⟨14, List.mem_of_getElem? (i := 90) (by rfl)⟩
  | 3, hc => cases hc; exact ⟨3, List.mem_of_getElem? (i := 209) (by rfl)⟩
  | 4, hc => cases hc; exact ⟨2, List.mem_of_getElem? (i := 110) (by rfl)⟩
  | 5, hc => cases hc; exact ⟨3, List.mem_of_getElem? (i := 103) (by rfl)⟩
  | 6, hc => cases hc; exact ⟨4, List.mem_of_getElem? (i := 202) (by rfl)⟩
  | 7, hc => cases hc; exact ⟨3, List.mem_of_getElem? (i := 81) (by rfl)⟩
  | 8, hc => cases hc; exact ⟨48, List.mem_of_getElem? (i := 836) (by rfl)⟩
  | k + 9, _ => omega
theorem st_D {args : Array Value} {s : State} (hts : ∀ w ∈ lw_tbl, w.before args s = true) (d0 : ClassId) (ax mi : Nat) : ∃ D : va_G, (∀ (c : Nat) (q : vw_C), vwCl[c]? = some q → u_Kn s q.1 q.2.1 q.2.2 (D.1 c) (D.2 c)) ∧ D.2 99 0 = ax ∧ D.2 99 1 = mi := by
  have hcl : ∀ ci : Nat, ∃ (cC : ClassId) (iS : Nat → Nat), ∀ q : vw_C, vwCl[ci]? = some q → u_Kn s q.1 q.2.1 q.2.2 cC iS := by
    intro ci
    cases h : vwCl[ci]? with
    | none => exact ⟨d0, fun _ => 0, fun q hq => by cases hq⟩
    | some q =>
      obtain ⟨n, hn⟩ := st_inst h
      obtain ⟨C, T, N⟩ := q
      obtain ⟨cC, iS, hk⟩ := u_known (n := n) hts (fun w hw => (List.mem_filter.mp (ev_lay_s h w hw)).1) (hts _ hn)
      exact ⟨cC, iS, fun q' hq => by cases hq; exact hk⟩
  refine ⟨(fun ci => Classical.choose (hcl ci), fun ci k => if ci = 99 then (if k = 0 then ax else mi) else Classical.choose (Classical.choose_spec (hcl ci)) k), fun c q hq => ?_, by simp, by simp⟩
  have hc : c < 9 := (List.getElem?_eq_some_iff.mp hq).1
  have := Classical.choose_spec (Classical.choose_spec (hcl c)) q hq
  have e : (fun k => if c = 99 then (if k = 0 then ax else mi) else Classical.choose (Classical.choose_spec (hcl c)) k) = Classical.choose (Classical.choose_spec (hcl c)) := by
    funext k
    rw [if_neg (by omega)]
  show u_Kn s q.1 q.2.1 q.2.2 (Classical.choose (hcl c)) (fun k => if c = 99 then (if k = 0 then ax else mi) else Classical.choose (Classical.choose_spec (hcl c)) k)
  rw [e]
  exact this
def st_ty : List FieldType := [.byte, .int, .boolean, .long, .object RX0, .object RX1, .object RX2, .object RX3, .object "java/lang/Object"]
theorem st_prim {args : Array Value} {s : State} {ty : FieldType} (h : (Cond.arrayClass ty).before args s = true) (hty : ∀ cA, s.vm.findClass ("[" ++ ty.toString) = some cA → va_RA s cA ty) : ∃ cA, ArrOfT s cA ty ∧ va_RA s cA ty := by
  obtain ⟨c, k, comp, h1, h2, h3⟩ := Cond.arrayClass_spec h
  exact ⟨c, fun n z => ⟨fun k h => (by cases h), k, h2, comp, h3⟩, hty c h1⟩
theorem st_ref {args : Array Value} {s : State} {C : String} (h : (Cond.arrayOver (.object C)).before args s = true) : ∃ cA, ArrOfT s cA (.object C) ∧ va_RA s cA (.object C) := by
  obtain ⟨comp, c, k, h1, -, h2, h3, h4⟩ := Cond.arrayOver_spec h
  exact ⟨c, fun n z => ⟨fun k h => (by cases h), k, h2, comp, h3⟩, k, comp, h2, h3, h1, h4⟩
set_option maxRecDepth 100000 in
theorem st_cy {args : Array Value} {s : State} (hts : ∀ w ∈ lw_tbl, w.before args s = true) (d0 : ClassId) : ∃ cy : Nat → ClassId, ∀ (k : Nat) (q : ClassId × FieldType), (ev_tyl cy)[k]? = some q → ArrOfT s q.1 q.2 ∧ va_RA s q.1 q.2 := by
  have ha : ∀ k : Nat, ∃ cA : ClassId, ∀ ty : FieldType, st_ty[k]? = some ty → ArrOfT s cA ty ∧ va_RA s cA ty := by
    intro k
    cases h : st_ty[k]? with
    | none => exact ⟨d0, fun ty hq => by cases hq⟩
    | some ty =>
      have : ∃ cA, ArrOfT s cA ty ∧ va_RA s cA ty := by
        have hk : k < 9 := (List.getElem?_eq_some_iff.mp h).1
        match k, h with
        | 0, h => cases h; exact st_prim (hts _ ev_w_ab) (fun _ z => z)
        | 1, h => cases h; exact st_prim (hts _ ev_w_ai) (fun _ z => z)
        | 2, h => cases h; exact st_prim (hts _ ev_w_az) (fun _ z => z)
        | 3, h => cases h; exact st_prim (hts _ ev_w_al) (fun _ z => z)
        | 4, h => cases h; exact st_ref (hts _ (List.mem_of_getElem? (i := 96) (by rfl)))
        | 5, h => cases h; exact st_ref (hts _ (List.mem_of_getElem? (i := 89) (by rfl)))
        | 6, h => cases h; exact st_ref (hts _ (List.mem_of_getElem? (i := 208) (by rfl)))
        | 7, h => cases h; exact st_ref (hts _ (List.mem_of_getElem? (i := 109) (by rfl)))
        | 8, h => cases h; exact st_ref (hts _ (List.mem_of_getElem? (i := 522) (by rfl)))
        | k + 9, _ => omega
      obtain ⟨cA, h1⟩ := this
      exact ⟨cA, fun ty' hq => by cases hq; exact h1⟩
  refine ⟨fun k => Classical.choose (ha k), fun k q hq => ?_⟩
  have hk : k < 9 := (List.getElem?_eq_some_iff.mp hq).1
  match k, hq with
  | 0, hq => cases hq; exact Classical.choose_spec (ha 0) _ rfl
  | 1, hq => cases hq; exact Classical.choose_spec (ha 1) _ rfl
  | 2, hq => cases hq; exact Classical.choose_spec (ha 2) _ rfl
  | 3, hq => cases hq; exact Classical.choose_spec (ha 3) _ rfl
  | 4, hq => cases hq; exact Classical.choose_spec (ha 4) _ rfl
  | 5, hq => cases hq; exact Classical.choose_spec (ha 5) _ rfl
  | 6, hq => cases hq; exact Classical.choose_spec (ha 6) _ rfl
  | 7, hq => cases hq; exact Classical.choose_spec (ha 7) _ rfl
  | 8, hq => cases hq; exact Classical.choose_spec (ha 8) _ rfl
  | k + 9, _ => omega
theorem st_nw {args : Array Value} {s : State} (hts : ∀ w ∈ lw_tbl, w.before args s = true) : ∀ w ∈ ev_nw, va_Nw w s := by
  intro w hw
  have h := hts w (List.mem_filter.mp hw).1
  have hn := (List.mem_filter.mp hw).2
  unfold ev_isn at hn
  split at hn
  · exact va_Nw.of rfl h
  · exact va_Nw.of rfl h
  · exact va_Nw.of rfl h
  · exact h
  · cases hn
theorem st_len {args : Array Value} {s : State} {t : Term} {a : Nat} {cell : Cell} (h : (Cond.eq (.length t) (.int 0)).before args s = true) (ht : t.eval args s none [] s = some (.ref a)) (hc : s.heap[a]? = some cell) : cell.slots.size = 0 := by
  cases hv : (Term.length t).eval args s none [] s with
  | none => simp [Cond.before, Cond.holds, Cond.value, hv] at h
  | some w =>
    have hz : (Term.int 0).eval args s none [] s = some (.int 0) := rfl
    have hw : w = .int 0 := by
      simp only [Cond.before, Cond.holds, Cond.value, hv, hz] at h
      cases w <;> simp_all
    subst hw
    cases ha : s.arrayAt? a with
    | none => simp [Term.eval, ht, ha] at hv
    | some c2 =>
      obtain ⟨hcb, -, -, -⟩ := State.arrayAt?_spec ha
      cases hcb.symm.trans hc
      by_cases hs : cell.slots.size < 2 ^ 31
      · simp [Term.eval, ht, ha, hs] at hv
        have h1 : (Int32.ofNat cell.slots.size).toInt = cell.slots.size := Int32.toInt_ofNat_of_lt hs
        have h2 : Int32.ofNat cell.slots.size = 0 := hv
        rw [h2] at h1
        have h3 : (0 : Int32).toInt = 0 := by decide
        omega
      · simp [Term.eval, ht, ha, hs] at hv
