/-! what the eliminators say -/
theorem ev_i_s {st : List Value} {k : Int32 → List Value → Prop} (h : ev_i st k) : ∃ v r, st = .int v :: r ∧ k v r := by
  unfold ev_i at h
  split at h
  · exact ⟨_, _, rfl, h⟩
  · exact h.elim
theorem ev_l_s {st : List Value} {k : Int64 → List Value → Prop} (h : ev_l st k) : ∃ v r, st = .long v :: r ∧ k v r := by
  unfold ev_l at h
  split at h
  · exact ⟨_, _, rfl, h⟩
  · exact h.elim
theorem ev_r_s {st : List Value} {k : Nat → List Value → Prop} (h : ev_r st k) : ∃ v r, st = .ref v :: r ∧ k v r := by
  unfold ev_r at h
  split at h
  · exact ⟨_, _, rfl, h⟩
  · exact h.elim
theorem ev_w_s {st : List Value} {k : Value → List Value → Prop} (h : ev_w st k) : ∃ v r, st = v :: r ∧ v.category = 1 ∧ k v r := by
  unfold ev_w at h
  split at h
  · exact ⟨_, _, rfl, rfl, h⟩
  · exact ⟨_, _, rfl, rfl, h⟩
  · exact ⟨_, _, rfl, rfl, h⟩
  · exact h.elim
theorem ev_q_s {st : List Value} {k : Option Nat → List Value → Prop} (h : ev_q st k) : ∃ v r, st = va_rf v :: r ∧ k v r := by
  unfold ev_q at h
  split at h
  · exact ⟨some _, _, rfl, h⟩
  · exact ⟨none, _, rfl, h⟩
  · exact h.elim
theorem ev_ii_s {st : List Value} {k : Int32 → Int32 → List Value → Prop} (h : ev_ii st k) : ∃ u v r, st = .int v :: .int u :: r ∧ k u v r := by
  obtain ⟨v, r, rfl, h1⟩ := ev_i_s h
  obtain ⟨u, r2, rfl, h2⟩ := ev_i_s h1
  exact ⟨u, v, r2, rfl, h2⟩
theorem ev_loc_s {L : List (Nat × Value)} {i : Nat} {k : Value → Prop} (h : ev_loc L i k) : ∃ v, (i, v) ∈ L ∧ k v := by
  induction L with
  | nil => exact h.elim
  | cons a r ih =>
    obtain ⟨j, v⟩ := a
    unfold ev_loc at h
    split at h
    · next hj => exact ⟨v, by rw [hj]; exact List.mem_cons_self, h⟩
    · obtain ⟨v', h1, h2⟩ := ih h
      exact ⟨v', List.mem_cons_of_mem _ h1, h2⟩
theorem ev_vi_s {v : Value} {k : Int32 → Prop} (h : ev_vi v k) : ∃ n, v = .int n ∧ k n := by
  unfold ev_vi at h
  split at h
  · exact ⟨_, rfl, h⟩
  · exact h.elim
theorem ev_vq_s {v : Value} {k : Value → Prop} (h : ev_vq v k) : ∃ q, v = va_rf q ∧ k v := by
  unfold ev_vq at h
  split at h
  · exact ⟨some _, rfl, h⟩
  · exact ⟨none, rfl, h⟩
  · exact h.elim
theorem ev_ob_s {e : Option va_E} {ci : Nat} {k : List Value → Prop} (h : ev_ob e ci k) : ∃ fs, e = some (.inr (ci, fs)) ∧ k fs := by
  unfold ev_ob at h
  split at h
  · obtain ⟨rfl, h⟩ := h
    exact ⟨_, rfl, h⟩
  · exact h.elim
theorem ev_nth_s {fs : List Value} {j : Nat} {k : Value → Prop} (h : ev_nth fs j k) : ∃ v, fs[j]? = some v ∧ k v := by
  unfold ev_nth at h
  split at h
  · next v hv => exact ⟨v, hv, h⟩
  · exact h.elim
theorem ev_ai_s {e : Option va_E} {cA : ClassId} {k : Nat → (Nat → Int32) → Prop} (h : ev_ai e cA k) : ∃ n g, e = some (.inl (cA, n, .inl g)) ∧ k n g := by
  unfold ev_ai at h
  split at h
  · obtain ⟨rfl, h⟩ := h
    exact ⟨_, _, rfl, h⟩
  · exact h.elim
theorem ev_al_s {e : Option va_E} {cA : ClassId} {k : Nat → (Nat → Int64) → Prop} (h : ev_al e cA k) : ∃ n g, e = some (.inl (cA, n, .inr (.inl g))) ∧ k n g := by
  unfold ev_al at h
  split at h
  · obtain ⟨rfl, h⟩ := h
    exact ⟨_, _, rfl, h⟩
  · exact h.elim
theorem ev_aq_s {e : Option va_E} {k : ClassId → Nat → (Nat → Option Nat) → Prop} (h : ev_aq e k) : ∃ cA n g, e = some (.inl (cA, n, .inr (.inr (.inr (.inr g))))) ∧ k cA n g := by
  unfold ev_aq at h
  split at h
  · exact ⟨_, _, _, rfl, h⟩
  · exact h.elim
theorem ev_len_s {e : Option va_E} {k : Nat → Prop} (h : ev_len e k) : ∃ cA n g, e = some (.inl (cA, n, g)) ∧ k n := by
  unfold ev_len at h
  split at h
  · exact ⟨_, _, _, rfl, h⟩
  · exact h.elim
theorem ev_pop_s : ∀ {n : Nat} {st acc : List Value} {k : List Value → List Value → Prop}, ev_pop n st acc k → ∃ as r, as.length = n ∧ st = as.reverse ++ r ∧ k (as ++ acc) r
  | 0, st, acc, k, h => ⟨[], st, rfl, rfl, h⟩
  | n + 1, [], acc, k, h => h.elim
  | n + 1, v :: st, acc, k, h => by
    obtain ⟨as, r, h1, h2, h3⟩ := ev_pop_s (n := n) (st := st) (acc := v :: acc) (k := k) h
    refine ⟨as ++ [v], r, by simp [h1], by simp [h2], ?_⟩
    rw [List.append_assoc]
    exact h3
theorem ev_del_m {L : List (Nat × Value)} {i : Nat} {q : Nat × Value} (h : q ∈ ev_del L i) : q ∈ L ∧ q.1 ≠ i := by
  induction L with
  | nil => cases h
  | cons a r ih =>
    obtain ⟨j, v⟩ := a
    unfold ev_del at h
    split at h
    · exact ⟨List.mem_cons_of_mem _ (ih h).1, (ih h).2⟩
    · next hj =>
      rcases List.mem_cons.mp h with rfl | h
      · exact ⟨List.mem_cons_self, hj⟩
      · exact ⟨List.mem_cons_of_mem _ (ih h).1, (ih h).2⟩
theorem ev_set_m {L : List (Nat × Value)} {i : Nat} {v : Value} {q : Nat × Value} (h : q ∈ ev_set L i v) : q = (i, v) ∨ (q ∈ L ∧ q.1 ≠ i) := by
  induction L with
  | nil => exact Or.inl (List.mem_singleton.mp h)
  | cons a r ih =>
    obtain ⟨j, w⟩ := a
    unfold ev_set at h
    split at h
    · next hj =>
      rcases List.mem_cons.mp h with rfl | h
      · exact Or.inl rfl
      · exact Or.inr ⟨List.mem_cons_of_mem _ (ev_del_m h).1, (ev_del_m h).2⟩
    · next hj =>
      rcases List.mem_cons.mp h with rfl | h
      · exact Or.inr ⟨List.mem_cons_self, hj⟩
      · rcases ih h with h | h
        · exact Or.inl h
        · exact Or.inr ⟨List.mem_cons_of_mem _ h.1, h.2⟩
theorem ev_set_has {ls : Array Slot} {nl i : Nat} {L : List (Nat × Value)} {v : Value} (h : lv_has ls nl ((i, v) :: L.filter (fun q => !(q.1 == i) && !(q.1 + 1 == i && q.2.category == 2)))) (hc : ∀ q ∈ L, q.2.category = 1) : lv_has ls nl (ev_set L i v) := by
  refine ⟨h.1, h.2.1, fun q hq => h.2.2 q ?_⟩
  rcases ev_set_m hq with rfl | ⟨h1, h2⟩
  · exact List.mem_cons_self
  · refine List.mem_cons_of_mem _ (List.mem_filter.mpr ⟨h1, ?_⟩)
    have := hc q h1
    simp [h2, this]
theorem ev_set_cat {L : List (Nat × Value)} {i : Nat} {v : Value} (hv : v.category = 1) (hc : ∀ q ∈ L, q.2.category = 1) : ∀ q ∈ ev_set L i v, q.2.category = 1 := by
  intro q hq
  rcases ev_set_m hq with rfl | ⟨h1, -⟩
  · exact hv
  · exact hc q h1
theorem ev_rf_cat (q : Option Nat) : (va_rf q).category = 1 := by cases q <;> rfl
theorem ev_has_mem {ls : Array Slot} {nl i : Nat} {L : List (Nat × Value)} {v : Value} (h : lv_has ls nl L) (hm : (i, v) ∈ L) : ls[i]? = some (.val v) := h.2.2 (i, v) hm
/-! what the tables say -/
theorem ev_wd_s {i : Nat} {w : Cond} (h : ev_wd i w = true) : w ∈ lw_tbl := List.mem_of_getElem? (of_decide_eq_true h)
theorem ev_ct_in {α β : Type} {z : List β} {t : List α} (g : β → α) (he : z.map g = t) {r : α} (hr : r ∈ t) : ∃ q ∈ z, g q = r := by
  rw [← he] at hr
  exact List.mem_map.mp hr
theorem ev_ft_s {oc idx ci k : Nat} {w : Int32} (h : ev_ft.contains (oc, idx, ci, k, w) = true) : ∃ C T N, vwCl[ci]? = some (C, T, N) ∧ k < N ∧
    ((w = 0 ∧ Cond.fieldLink (ev_on oc) idx (T k).1 (T k).2.1 (T k).2.2.1 ∈ lw_tbl) ∨ (w = 1 ∧ Cond.fieldLinkNest (ev_on oc) idx (T k).1 (T k).2.1 (T k).2.2.1 "CreditLink" ∈ lw_tbl) ∨
      (w ≠ 0 ∧ Cond.fieldLink (ev_on oc) idx C (T k).2.1 (T k).2.2.1 ∈ lw_tbl ∧ Cond.sameField C (T k).1 (T k).2.1 (T k).2.2.1 ∈ lw_tbl)) := by
  obtain ⟨⟨r, i, j⟩, hz, he⟩ := ev_ct_in Prod.fst ev_fz_ft (List.contains_iff_mem.mp h)
  have hk := List.all_eq_true.mp ev_fz_ok _ hz
  dsimp only at he
  subst he
  unfold ev_fokb at hk
  dsimp only at hk
  split at hk
  · cases hk
  · next C T N hc =>
    rw [Bool.and_eq_true] at hk
    obtain ⟨h1, h2⟩ := hk
    refine ⟨C, T, N, hc, of_decide_eq_true h1, ?_⟩
    split at h2
    · next h0 => exact Or.inl ⟨eq_of_beq h0, ev_wd_s h2⟩
    · next h0 =>
      split at h2
      · next h3 => exact Or.inr (Or.inl ⟨eq_of_beq h3, ev_wd_s h2⟩)
      · rw [Bool.and_eq_true] at h2
        exact Or.inr (Or.inr ⟨fun hw => h0 (by rw [hw]; rfl), ev_wd_s h2.1, ev_wd_s h2.2⟩)
theorem ev_lay_s {ci : Nat} {C : String} {T : u_T} {N : Nat} (hc : vwCl[ci]? = some (C, T, N)) : ∀ w ∈ u_ws C T N, w ∈ lw_tbl.filter goodWord := by
  intro w hw
  have hci : ci < 9 := (List.getElem?_eq_some_iff.mp hc).1
  have hk := List.all_eq_true.mp ev_lay_ok ci (List.mem_range.mpr hci)
  unfold ev_lokb at hk
  rw [hc] at hk
  split at hk
  · next C' T' N' z hc' hz =>
    cases hc'
    rw [Bool.and_eq_true] at hk
    obtain ⟨j, hj, rfl⟩ := List.mem_map.mp hw
    have h2 := List.all_eq_true.mp hk.2 j hj
    refine List.mem_filter.mpr ⟨ev_wd_s h2, ?_⟩
    unfold u_lay
    split <;> rfl
  · cases hk
theorem ev_ty_s {ci : Nat} {C : String} {T : u_T} {N : Nat} (hc : vwCl[ci]? = some (C, T, N)) : (∀ k, k < N → parseFieldDescriptor (T k).2.2.1 = some (ev_ty ci k)) ∧ (∀ a, a < N → ∀ b, b < N → a ≠ b → (T a).2.1 ≠ (T b).2.1) ∧ N = ev_nf ci := by
  have hci : ci < 9 := (List.getElem?_eq_some_iff.mp hc).1
  match ci, hc with
  | 0, hc => cases hc; exact ⟨tyJx4a65c_ok, nmJx4a65c, rfl⟩
  | 1, hc => cases hc; exact ⟨tyX0_ok, nmX0, rfl⟩
  | 2, hc => cases hc; exact ⟨tyX1_ok, nmX1, rfl⟩
  | 3, hc => cases hc; exact ⟨tyX2_ok, nmX2, rfl⟩
  | 4, hc => cases hc; exact ⟨tyX3_ok, nmX3, rfl⟩
  | 5, hc => cases hc; exact ⟨tyX4_ok, nmX4, rfl⟩
  | 6, hc => cases hc; exact ⟨tyX5_ok, nmX5, rfl⟩
  | 7, hc => cases hc; exact ⟨tyX6_ok, nmX6, rfl⟩
  | 8, hc => cases hc; exact ⟨tyX7_ok, nmX7, rfl⟩
  | k + 9, _ => omega
theorem ev_fit_s {ty : FieldType} {v : Value} (h : ev_fit ty v) : narrow ty v = v ∧ fits ty v = true := by
  unfold ev_fit at h
  split at h
  · exact ⟨rfl, rfl⟩
  · rcases h with rfl | rfl <;> exact ⟨by decide, by decide⟩
  · exact ⟨rfl, rfl⟩
  · exact ⟨rfl, rfl⟩
  · exact ⟨rfl, rfl⟩
  · exact ⟨rfl, rfl⟩
  · exact h.elim
