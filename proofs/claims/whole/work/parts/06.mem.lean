/-! THE MODEL HEAP: what the walk knows of the heap, a partial map from addresses to cells; every cell of it stands in the heap. -/
abbrev ev_H : Type := Nat → Option va_E
/-- an empty array of references that is no object of ours: its class and its length are known -/
def mh_w (a : Nat) (e : va_E) (H : Heap) : Prop := ∃ (cA : ClassId) (g : Nat → Option Nat) (cell : Cell), e = .inl (cA, 0, .inr (.inr (.inr (.inr g)))) ∧ H[a]? = some cell ∧ cell.cls = cA ∧ cell.slots.size = 0 ∧ cell.vm.isStatics = false
def mh_ns (e : va_E) : Bool := match e with
  | .inl (_, n, .inr (.inr (.inr (.inr _)))) => n != 0
  | _ => true
def mh_P (D : va_G) (cl : List vw_C) (f : ev_H) (H : Heap) : Prop := ∀ (a : Nat) (e : va_E), f a = some e → va_at D cl (a, e) H ∨ mh_w a e H
theorem mh_P.s {D : va_G} {cl : List vw_C} {f : ev_H} {H : Heap} (h : mh_P D cl f H) {a : Nat} {e : va_E} (he : f a = some e) (hn : mh_ns e = true := by rfl) : va_at D cl (a, e) H := (h a e he).resolve_right (fun q => by
  obtain ⟨cA, g, cell, rfl, -⟩ := q
  cases hn)
theorem mh_ns_q {cA : ClassId} {z : Nat} {g : Nat → Option Nat} (hz : z ≠ 0) : mh_ns (.inl (cA, z, .inr (.inr (.inr (.inr g))))) = true := by
  show (z != 0) = true
  simp [hz]
def mh_ls (f : ev_H) (n : Nat) : va_W := (List.range n).filterMap (fun q => (f q).map (fun e => (q, e)))
theorem mh_mem {f : ev_H} {n : Nat} {q : Nat × va_E} : q ∈ mh_ls f n ↔ q.1 < n ∧ f q.1 = some q.2 := by
  unfold mh_ls
  rw [List.mem_filterMap]
  constructor
  · rintro ⟨a, ha, he⟩
    cases hf : f a with
    | none => rw [hf] at he; cases he
    | some e =>
      rw [hf] at he
      cases he
      exact ⟨List.mem_range.mp ha, hf⟩
  · rintro ⟨h1, h2⟩
    exact ⟨q.1, List.mem_range.mpr h1, by rw [h2]; rfl⟩
theorem mh_P.lt {D : va_G} {cl : List vw_C} {f : ev_H} {H : Heap} (h : mh_P D cl f H) {a : Nat} {e : va_E} (he : f a = some e) : a < H.size := by
  rcases h a e he with h1 | ⟨cA, g, cell, -, h1, -⟩
  · exact h1.lt
  · exact (Array.getElem?_eq_some_iff.mp h1).1
theorem mh_P.keep {D : va_G} {cl : List vw_C} {f : ev_H} {H H1 : Heap} (h : mh_P D cl f H) {a : Nat} {e : va_E} (he : f a = some e) (ho : H1[a]? = H[a]?) : va_at D cl (a, e) H1 ∨ mh_w a e H1 := by
  rcases h a e he with h1 | ⟨cA, g, cell, h0, h1, h2⟩
  · exact Or.inl (h1.kept ho)
  · exact Or.inr ⟨cA, g, cell, h0, ho.trans h1, h2⟩
theorem mh_keys (f : ev_H) (n : Nat) : ((mh_ls f n).map (fun q => q.1)).Nodup := by
  unfold mh_ls
  have h : ∀ l : List Nat, l.Nodup → ((l.filterMap (fun q => (f q).map (fun e => (q, e)))).map (fun q : Nat × va_E => q.1)).Nodup ∧ ∀ x ∈ (l.filterMap (fun q => (f q).map (fun e => (q, e)))).map (fun q : Nat × va_E => q.1), x ∈ l := by
    intro l
    induction l with
    | nil => intro _; exact ⟨List.nodup_nil, fun x hx => by simp at hx⟩
    | cons a l ih =>
      intro hn
      obtain ⟨hna, hnl⟩ := List.nodup_cons.mp hn
      obtain ⟨h1, h2⟩ := ih hnl
      cases hf : f a with
      | none =>
        simp only [List.filterMap_cons, hf, Option.map_none]
        exact ⟨h1, fun x hx => List.mem_cons_of_mem _ (h2 x hx)⟩
      | some e =>
        simp only [List.filterMap_cons, hf, Option.map_some, List.map_cons]
        refine ⟨List.nodup_cons.mpr ⟨fun hx => hna (h2 a hx), h1⟩, fun x hx => ?_⟩
        rcases List.mem_cons.mp hx with rfl | hx
        · exact List.mem_cons_self
        · exact List.mem_cons_of_mem _ (h2 x hx)
  exact (h _ List.nodup_range).1
theorem mh_D {f : ev_H} {n : Nat} {A : Nat → Prop} (hA : ∀ a e, f a = some e → A a) : va_D A (mh_ls f n) := by
  refine ⟨fun i j p q hi hj hpq => ?_, fun k q hk => hA q.1 q.2 (mh_mem.mp (List.mem_of_getElem? hk)).2⟩
  have hn := mh_keys f n
  have h1 : ((mh_ls f n).map (fun q => q.1))[i]? = some p.1 := by rw [List.getElem?_map, hi]; rfl
  have h2 : ((mh_ls f n).map (fun q => q.1))[j]? = some p.1 := by rw [List.getElem?_map, hj, hpq]; rfl
  have hli := (List.getElem?_eq_some_iff.mp h1).1
  exact (List.getElem?_inj hli hn).mp (h1.trans h2.symm)
theorem mh_at {f : ev_H} {n a : Nat} {e : va_E} (hf : f a = some e) (hn : a < n) : ∃ k : Nat, (mh_ls f n)[k]? = some (a, e) := List.getElem?_of_mem (mh_mem.mpr ⟨hn, hf⟩)
/-- one cell is new, behind all others -/
theorem mh_push {D : va_G} {cl : List vw_C} {f : ev_H} {H H1 : Heap} {e : va_E} (h : mh_P D cl f H) (ho : ∀ q : Nat, q < H.size → H1[q]? = H[q]?) (he : va_at D cl (H.size, e) H1) : mh_P D cl (va_up f H.size (some e)) H1 := by
  intro q x hq
  unfold va_up at hq
  split at hq
  · next hqa =>
    cases hq
    subst hqa
    exact Or.inl he
  · next hqa => exact h.keep hq (ho q (h.lt hq))
theorem mh_dom {f : ev_H} {z a : Nat} {e : va_E} (hA : ∀ q x, f q = some x → z ≤ q) (ha : z ≤ a) : ∀ q x, va_up f a (some e) q = some x → z ≤ q := by
  intro q x hq
  unfold va_up at hq
  split at hq
  · next h => rw [h]; exact ha
  · exact hA q x hq
