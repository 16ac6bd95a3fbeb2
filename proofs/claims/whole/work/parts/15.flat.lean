/-! THE FLAT MEMORY: addresses count from z0; a shape tells which cell is what, its references and its longs; every int is V address place. -/
abbrev fl_E : Type := (Nat × Nat × Option ((Nat → Option Nat) ⊕ (Nat → Int64))) ⊕ (Nat × List (Option (Option Nat)))
abbrev fl_S : Type := Nat → Option fl_E
abbrev fl_V : Type := Nat → Nat → Int32
def fl_r (z0 : Nat) (r : Option Nat) : Value := match r with
  | none => .null
  | some k => .ref (z0 + k)
def fl_vals (z0 : Nat) (v : Nat → Int32) : Nat → List (Option (Option Nat)) → List Value
  | _, [] => []
  | j, none :: r => .int (v j) :: fl_vals z0 v (j + 1) r
  | j, some q :: r => fl_r z0 q :: fl_vals z0 v (j + 1) r
def fl_e (cy : Nat → ClassId) (z0 : Nat) (v : Nat → Int32) (e : fl_E) : va_E := match e with
  | .inr (ci, sl) => .inr (ci, fl_vals z0 v 0 sl)
  | .inl (t, len, none) => .inl (cy t, len, .inl v)
  | .inl (t, len, some (.inl g)) => .inl (cy t, len, .inr (.inr (.inr (.inr fun j => (g j).map (fun k => z0 + k)))))
  | .inl (t, len, some (.inr g)) => .inl (cy t, len, .inr (.inl g))
def fl_f (cy : Nat → ClassId) (z0 : Nat) (sh : fl_S) (V : fl_V) : ev_H := fun a => if z0 ≤ a then (sh (a - z0)).map (fl_e cy z0 (V (a - z0))) else none
def up2 (V : fl_V) (k j : Nat) (v : Int32) : fl_V := fun a i => if a = k then (if i = j then v else V k i) else V a i
theorem fl_at {cy : Nat → ClassId} {z0 k : Nat} {sh : fl_S} {V : fl_V} {e : fl_E} (h : sh k = some e) : fl_f cy z0 sh V (z0 + k) = some (fl_e cy z0 (V k) e) := by
  unfold fl_f
  rw [if_pos (Nat.le_add_right _ _), Nat.add_sub_cancel_left, h]
  rfl
theorem fl_upd {cy : Nat → ClassId} {z0 k : Nat} {sh sh' : fl_S} {V V' : fl_V} {e : fl_E} (hs : sh' k = some e) (ho : ∀ a, a ≠ k → sh' a = sh a ∧ V' a = V a) : va_up (fl_f cy z0 sh V) (z0 + k) (some (fl_e cy z0 (V' k) e)) = fl_f cy z0 sh' V' := by
  funext a
  unfold va_up
  split
  · next h =>
    subst h
    rw [fl_at hs]
  · next h =>
    unfold fl_f
    split
    · next hz =>
      have hne : a - z0 ≠ k := by omega
      obtain ⟨h1, h2⟩ := ho _ hne
      rw [h1, h2]
    · rfl
theorem fl_vals_get (z0 : Nat) (v : Nat → Int32) : ∀ (sl : List (Option (Option Nat))) (i j : Nat), (fl_vals z0 v i sl)[j]? = (sl[j]?).map (fun s => match s with | none => Value.int (v (i + j)) | some q => fl_r z0 q)
  | [], i, j => by simp [fl_vals]
  | none :: r, i, 0 => by simp [fl_vals]
  | some q :: r, i, 0 => by simp [fl_vals]
  | none :: r, i, j + 1 => by
    simp only [fl_vals, List.getElem?_cons_succ]
    rw [fl_vals_get z0 v r (i + 1) j]
    rw [show i + 1 + j = i + (j + 1) by omega]
  | some q :: r, i, j + 1 => by
    simp only [fl_vals, List.getElem?_cons_succ]
    rw [fl_vals_get z0 v r (i + 1) j]
    rw [show i + 1 + j = i + (j + 1) by omega]
theorem fl_vals_len (z0 : Nat) (v : Nat → Int32) : ∀ (sl : List (Option (Option Nat))) (i : Nat), (fl_vals z0 v i sl).length = sl.length
  | [], i => rfl
  | none :: r, i => by simp [fl_vals, fl_vals_len z0 v r]
  | some q :: r, i => by simp [fl_vals, fl_vals_len z0 v r]
theorem fl_vals_ext (z0 : Nat) {v u : Nat → Int32} {s1 s2 : List (Option (Option Nat))} (i : Nat) (h : ∀ j : Nat, (fl_vals z0 v i s1)[j]? = (fl_vals z0 u i s2)[j]?) : fl_vals z0 v i s1 = fl_vals z0 u i s2 := List.ext_getElem? h
theorem fl_set_i {z0 : Nat} {v : Nat → Int32} {sl : List (Option (Option Nat))} {j : Nat} {w : Int32} (h : sl[j]? = some none) : (fl_vals z0 v 0 sl).set j (.int w) = fl_vals z0 (fun m => if m = j then w else v m) 0 sl := by
  apply List.ext_getElem?
  intro k
  rw [fl_vals_get, List.getElem?_set, fl_vals_len, fl_vals_get]
  have hj : j < sl.length := (List.getElem?_eq_some_iff.mp h).1
  by_cases hk : j = k
  · subst hk
    rw [if_pos rfl, if_pos hj, h]
    simp
  · rw [if_neg hk]
    cases hs : sl[k]? with
    | none => rfl
    | some s =>
      cases s with
      | none => simp [Ne.symm hk]
      | some q => rfl
theorem fl_set_r {z0 : Nat} {v : Nat → Int32} {sl : List (Option (Option Nat))} {j : Nat} {q : Option Nat} (h : j < sl.length) : (fl_vals z0 v 0 sl).set j (fl_r z0 q) = fl_vals z0 v 0 (sl.set j (some q)) := by
  apply List.ext_getElem?
  intro k
  rw [fl_vals_get, List.getElem?_set, fl_vals_len, fl_vals_get, List.getElem?_set]
  by_cases hk : j = k
  · subst hk
    simp [h]
  · simp [hk]
theorem up2_fn (V : fl_V) (k j : Nat) (v : Int32) : up2 V k j v k = fun m => if m = j then v else V k m := by
  funext m
  simp [up2]
theorem up2_ne (V : fl_V) {k a : Nat} (j : Nat) (v : Int32) (h : a ≠ k) : up2 V k j v a = V a := by
  funext m
  simp [up2, h]
theorem fl_put_i {cy : Nat → ClassId} {z0 k j ci : Nat} {sh : fl_S} {V : fl_V} {sl : List (Option (Option Nat))} {w : Int32} (hs : sh k = some (.inr (ci, sl))) (hj : sl[j]? = some none) : va_up (fl_f cy z0 sh V) (z0 + k) (some (.inr (ci, (fl_vals z0 (V k) 0 sl).set j (.int w)))) = fl_f cy z0 sh (up2 V k j w) := by
  rw [fl_set_i hj, ← up2_fn V k j w]
  exact fl_upd (e := .inr (ci, sl)) hs (fun a ha => ⟨rfl, up2_ne V j w ha⟩)
theorem fl_put_r {cy : Nat → ClassId} {z0 k j ci : Nat} {sh : fl_S} {V : fl_V} {sl : List (Option (Option Nat))} {q : Option Nat} (hj : j < sl.length) : va_up (fl_f cy z0 sh V) (z0 + k) (some (.inr (ci, (fl_vals z0 (V k) 0 sl).set j (fl_r z0 q)))) = fl_f cy z0 (va_up sh k (some (.inr (ci, sl.set j (some q))))) V := by
  rw [fl_set_r hj]
  exact fl_upd (e := .inr (ci, sl.set j (some q))) (va_up_self _ _ _) (fun a ha => ⟨va_up_ne _ _ ha, rfl⟩)
theorem fl_put_a {cy : Nat → ClassId} {z0 k j t len : Nat} {sh : fl_S} {V : fl_V} {w : Int32} (hs : sh k = some (.inl (t, len, none))) : va_up (fl_f cy z0 sh V) (z0 + k) (some (.inl (cy t, len, .inl (upd (V k) j w)))) = fl_f cy z0 sh (up2 V k j w) := by
  have h1 : upd (V k) j w = up2 V k j w k := by rw [up2_fn]; rfl
  rw [h1]
  exact fl_upd (e := .inl (t, len, none)) hs (fun a ha => ⟨rfl, up2_ne V j w ha⟩)
theorem fl_put_q {cy : Nat → ClassId} {z0 k j t len : Nat} {sh : fl_S} {V : fl_V} {g : Nat → Option Nat} {q : Option Nat} : va_up (fl_f cy z0 sh V) (z0 + k) (some (.inl (cy t, len, .inr (.inr (.inr (.inr (va_up (fun j => (g j).map (fun k => z0 + k)) j (q.map (fun k => z0 + k))))))))) = fl_f cy z0 (va_up sh k (some (.inl (t, len, some (.inl (va_up g j q)))))) V := by
  have h1 : va_up (fun j => (g j).map (fun k => z0 + k)) j (q.map (fun k => z0 + k)) = fun i => (va_up g j q i).map (fun k => z0 + k) := by
    funext i
    unfold va_up
    split <;> rfl
  rw [h1]
  exact fl_upd (e := .inl (t, len, some (.inl (va_up g j q)))) (va_up_self _ _ _) (fun a ha => ⟨va_up_ne _ _ ha, rfl⟩)
/-- a new cell: its ints are 0 -/
theorem fl_new {cy : Nat → ClassId} {z0 k : Nat} {sh : fl_S} {V : fl_V} {e : fl_E} {y : va_E} (hy : fl_e cy z0 (fun _ => 0) e = y) : va_up (fl_f cy z0 sh V) (z0 + k) (some y) = fl_f cy z0 (va_up sh k (some e)) (va_up V k (fun _ => 0)) := by
  have h := fl_upd (cy := cy) (z0 := z0) (sh := sh) (sh' := va_up sh k (some e)) (V := V) (V' := va_up V k (fun _ => 0)) (k := k) (e := e) (va_up_self _ _ _) (fun a ha => ⟨va_up_ne _ _ ha, va_up_ne _ _ ha⟩)
  rw [va_up_self] at h
  rw [← hy]
  exact h
theorem fl_r_rf (z0 : Nat) (q : Option Nat) : va_rf (q.map (fun k => z0 + k)) = fl_r z0 q := by cases q <;> rfl
def ev_lk : List (Nat × Value) → Nat → Option Value
  | [], _ => none
  | (j, v) :: r, i => if j = i then some v else ev_lk r i
theorem ev_lk_s {L : List (Nat × Value)} {i : Nat} {v : Value} {k : Value → Prop} (h : ev_lk L i = some v) (hk : k v) : ev_loc L i k := by
  induction L with
  | nil => cases h
  | cons a r ih =>
    obtain ⟨j, u⟩ := a
    unfold ev_lk at h
    unfold ev_loc
    split
    · next hj => rw [if_pos hj] at h; cases h; exact hk
    · next hj => rw [if_neg hj] at h; exact ih h
