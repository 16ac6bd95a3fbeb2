/-! THE LAW: rows over its table; what holds between its rounds -/
abbrev lQ (l : Launch) (D : va_G) (cy : Nat → ClassId) (zF z0 : Nat) (ext : Nat → Nat → List Value → ev_H → Nat → ev_P → Prop) (b Lx : Nat) (xs : Nat → Int32) (Ret : ev_P) (pc : Nat) (L : List (Nat × Value)) (st : List Value) (sh : fl_S) (V : fl_V) (n c sl : Nat) : Prop :=
  fl_Q cy z0 (ev_M cy ext 15) (ev_spL l D cy zF 15 b Lx xs 601024 7293034 kl_law) 15 601024 7293034 7 (some .boolean) kl_law Ret pc L st sh V n c sl
section LROW
variable {l : Launch} {D : va_G} {cy : Nat → ClassId} {zF z0 : Nat} {ext : Nat → Nat → List Value → ev_H → Nat → ev_P → Prop} {b Lx : Nat} {xs : Nat → Int32} {Ret : ev_P} {pc pc2 q0 len a : Nat} {w : Int32} {L : List (Nat × Value)} {st r : List Value} {sh : fl_S} {V : fl_V} {n c sl : Nat}
theorem lw_scr {u : Int32} (hat : ev_at kl_law pc = some (q0, .iaload, len, a, 99, w)) (hp : pc + 1 = pc2) (hu : vp_in u Lx) (h : lQ l D cy zF z0 ext b Lx xs Ret pc2 L (.int (xs u.toNatClampNeg) :: r) sh V n c sl) : lQ l D cy zF z0 ext b Lx xs Ret pc L (.int u :: .ref b :: r) sh V n c sl := by
  subst hp
  refine fc_hook hat ?_
  exact Or.inl ⟨⟨_, _, _, _, _, hat⟩, u, r, rfl, hu, h⟩
theorem lw_len (hat : ev_at kl_law pc = some (q0, .arraylength, len, a, 99, w)) (hp : pc + 1 = pc2) (h : lQ l D cy zF z0 ext b Lx xs Ret pc2 L (.int (Int32.ofNat Lx) :: r) sh V n c sl) : lQ l D cy zF z0 ext b Lx xs Ret pc L (.ref b :: r) sh V n c sl := by
  subst hp
  refine fc_hook hat ?_
  exact Or.inr (Or.inl ⟨⟨_, _, _, _, _, hat⟩, r, rfl, h⟩)
theorem lw_hlp {kL k6 m6 dc ds : Nat} {md : ev_Md} {hh : List (Nat × Nat × Nat × Nat)} {As : List Value} {Q : Option Value → fl_S → fl_V → Nat → Prop} (hat : ev_at kl_law pc = some (q0, .invokestatic kL, len, a, 99, w)) (hp : pc + 3 = pc2) (hw : ev_Hw kL k6 md hh m6) (hH : fl_H l D cy zF z0 15 md hh As sh V n Q) (hst : st = As.reverse ++ r) (hlen : As.length = md.2.2.2.2.2.1) (hsum : (r.map fun v => v.category).sum ≤ 8) (hdc : md.2.2.2.2.2.2.2.1 = dc) (hds : md.2.2.2.2.2.2.2.2 = ds) (hc : c + dc ≤ 601024) (hl : sl + ds ≤ 7293034)
    (h : ∀ v sh' V' n', Q v sh' V' n' → lQ l D cy zF z0 ext b Lx xs Ret pc2 L (v.toList ++ r) sh' V' n' (c + dc) (sl + ds)) : lQ l D cy zF z0 ext b Lx xs Ret pc L st sh V n c sl := by
  subst hp
  subst hdc
  subst hds
  subst hst
  refine fc_hook hat ?_
  refine Or.inr (Or.inr ⟨kL, k6, m6, md, hh, As, r, fun v f' n' => ev_R cy (ev_M cy ext 15) (ev_spL l D cy zF 15 b Lx xs 601024 7293034 kl_law) 15 601024 7293034 7 (some .boolean) kl_law Ret (pc + 3, L, v.toList ++ r, f', n', c + md.2.2.2.2.2.2.2.1, sl + md.2.2.2.2.2.2.2.2), ⟨_, _, _, _, _, hat⟩, hw, rfl, hlen, hsum, hc, hl, hH _ (fun v sh' V' n' q => h v sh' V' n' q), fun _ _ _ z => z⟩)
theorem lw_callv {k b2 dc ds : Nat} {md : ev_Md} {cde : List ev_I} {as : List Value} {P : Option Value → fl_S → fl_V → Nat → Prop} (hat : ev_at kl_law pc = some (q0, .invokevirtual k, len, a, b2, w)) (hb : (b2 == 99) = false) (hp : pc + 3 = pc2) (hm : ev_ms[a]? = some (md, cde)) (hst : ev_pop (md.2.2.2.2.2.1 + 1) st [] (fun as' r' => as' = as ∧ r' = r)) (hsum : (r.map fun v => v.category).sum ≤ 8) (hdc : md.2.2.2.2.2.2.2.1 = dc) (hds : md.2.2.2.2.2.2.2.2 = ds) (hc : c + dc ≤ 601024) (hl : sl + ds ≤ 7293034) (hrc : ev_rcv 1 (fl_f cy z0 sh V) md.2.2.2.2.1 as) (hM : fl_M cy z0 ext 15 a as sh V n P)
    (h : ∀ v sh' V' n', P v sh' V' n' → lQ l D cy zF z0 ext b Lx xs Ret pc2 L (v.toList ++ r) sh' V' n' (c + dc) (sl + ds)) : lQ l D cy zF z0 ext b Lx xs Ret pc L st sh V n c sl := by
  subst hdc
  subst hds
  exact fs_callv hat hb hp hm hst hsum hc hl hrc hM h
theorem lw_callc {k b2 dc ds : Nat} {md : ev_Md} {cde : List ev_I} {as : List Value} {P : Option Value → fl_S → fl_V → Nat → Prop} (hat : ev_at kl_law pc = some (q0, .invokespecial k, len, a, b2, w)) (hb : (b2 == 99) = false) (hb5 : (b2 == 5) = false) (hp : pc + 3 = pc2) (hm : ev_ms[a]? = some (md, cde)) (hst : ev_pop (md.2.2.2.2.2.1 + 1) st [] (fun as' r' => as' = as ∧ r' = r)) (hsum : (r.map fun v => v.category).sum ≤ 8) (hdc : md.2.2.2.2.2.2.2.1 = dc) (hds : md.2.2.2.2.2.2.2.2 = ds) (hc : c + dc ≤ 601024) (hl : sl + ds ≤ 7293034) (hrc : ev_rcv 2 (fl_f cy z0 sh V) md.2.2.2.2.1 as) (hM : fl_M cy z0 ext 15 a as sh V n P)
    (h : ∀ v sh' V' n', P v sh' V' n' → lQ l D cy zF z0 ext b Lx xs Ret pc2 L (v.toList ++ r) sh' V' n' (c + dc) (sl + ds)) : lQ l D cy zF z0 ext b Lx xs Ret pc L st sh V n c sl := by
  subst hdc
  subst hds
  exact fs_callc hat hb hb5 hp hm hst hsum hc hl hrc hM h
end LROW
section LMV
variable {cy : Nat → ClassId} {z0 : Nat} {ext : Nat → Nat → List Value → ev_H → Nat → ev_P → Prop} {d : Nat} {sh sh' sh9 : fl_S} {V V' V9 : fl_V} {n n' n9 K a0 c mb o t k : Nat} {E : Nat → Nat} {R : Nat → List Nat} {S S' : List Nat} {HH HH' : Nat → Ho} {T : Nat → Nat}
theorem isMo.mv (h : isMo sh mb) (hs : ∀ a, mb ≤ a → a < mb + 46 → sh' a = sh a) : isMo sh' mb := by
  obtain ⟨m1, m2⟩ := h
  refine ⟨by rw [hs mb (by omega) (by omega)]; exact m1, fun j p hj => ?_⟩
  have hl : j < 45 := (List.getElem?_eq_some_iff.mp hj).1
  rw [hs _ (by omega) (by omega)]
  exact m2 j p hj
theorem Mo.mv (h : Mo V mb T S HH) (hv : ∀ a, mb ≤ a → a < mb + 46 → V' a = V a) : Mo V' mb T S HH := h.tmp (fun j i q => by
  have hj : j < 46 := by
    rcases Nat.lt_or_ge j 46 with z | z
    · exact z
    · exfalso
      apply q
      unfold own
      repeat rw [if_neg (by omega)]
  rw [hv (mb + j) (by omega) (by omega)])
theorem CL.mv (h : CL sh V n K a0 c E R S HH) (hn : n ≤ n') (hs : ∀ a, (a < c + 374 ∨ K ≤ a) → sh' a = sh a) (hv : ∀ a, (a < c + 374 ∨ K ≤ a) → V' a = V a) : CL sh' V' n' K a0 c E R S HH := by
  obtain ⟨g1, ⟨g, g2, g3⟩, g4, g5, ⟨ys, g6⟩, g7, g8, g9⟩ := id h
  refine ⟨by unfold isCL; rw [hs c (by omega)]; exact g1, ⟨g, by rw [hs _ (by omega)]; exact g2, g3⟩, fun i hi => ?_, ?_, ⟨ys, ?_⟩, g7, g8, g9⟩
  · have hH := g4 i hi
    obtain ⟨wh, hw⟩ := hH.2.2.2.1
    have he : E i = a0 ∨ K ≤ E i := hH.2.2.2.2.1.2.2.1
    have := hH.move (h' := wh) (W := (HH i).2.2.2.1) (sh' := sh') (V' := V') hn (fun a a1 a2 => hs a (by omega)) (hs _ (by omega)) (hs _ (by omega)) (fun r hr => by
      obtain ⟨x, x1, x2, x3⟩ := hH.rowOf hr
      exact ⟨hs _ (by omega), hs _ (by omega)⟩) (fun a ha => hv a (by omega)) ((hw.shape (fun a a1 a2 => hs a (by omega))).kept (fun a a1 a2 => hv a (by omega)))
    exact this
  · exact (g5.shape (hs _ (by omega)) (hs _ (by omega))).kept (hv _ (by omega)) (hv _ (by omega))
  · exact (g6.shape (hs _ (by omega)) (hs _ (by omega))).kept (hv _ (by omega)) (hv _ (by omega))
theorem CL.Kn (h : CL sh V n K a0 c E R S HH) : K ≤ n := (h.host (i := 0) (by decide)).1.2.2.2.1
/-- what holds at the head of the law's loop, after t rounds -/
def LI (K a0 c mb o : Nat) (sh : fl_S) (V : fl_V) (n t : Nat) : Prop := ∃ E R S HH g, CL sh V n K a0 c E R S HH ∧ isMo sh mb ∧ Mo V mb (fun _ => t) S HH ∧ sh o = some (.inl (3, 1, some (.inr g))) ∧ JI t HH
/-- behind a helper -/
theorem lw_aft {g : Nat → Int64} {y : Int64} {a : Option Value} (e1 : mb = c + 374) (e2 : o = c + 420) (e3 : K = c + 421) (hL : CL sh V n K a0 c E R S HH) (hm : isMo sh mb) (hM : Mo V mb T S HH) (ho : sh o = some (.inl (3, 1, some (.inr g)))) (hsame : k ≠ 0 → S' = S ∧ HH' = HH)
    (hp : (k = 0 ∧ ∃ sh1, (a = a ∧ (∃ E' R', CL sh1 V9 n9 K a0 c E' R' S' HH') ∧ FC c K sh V n sh1 V9 n9) ∧ sh9 = va_up sh1 o (some (.inl (3, 1, some (.inr (vp_updL g (0 : Int32).toNatClampNeg y)))))) ∨ k ≠ 0 ∧ sh9 = sh ∧ V9 = V ∧ n ≤ n9) : ∃ E' R' g', CL sh9 V9 n9 K a0 c E' R' S' HH' ∧ isMo sh9 mb ∧ Mo V9 mb T S HH ∧ sh9 o = some (.inl (3, 1, some (.inr g'))) ∧ (k = 0 → g' (0 : Int32).toNatClampNeg = y) := by
  have hKn := hL.Kn
  rcases hp with ⟨hk, sh1, ⟨-, ⟨E', R', hL1⟩, hF⟩, rfl⟩ | ⟨hk, rfl, rfl, hn⟩
  · refine ⟨E', R', _, hL1.mv (Nat.le_refl _) (fun a ha => va_up_ne _ _ (by omega)) (fun _ _ => rfl), hm.mv (fun a a1 a2 => ?_), hM.mv (fun a a1 a2 => hF.2.1 a (by omega) (by omega)), va_up_self _ _ _, fun _ => by simp [vp_updL]⟩
    rw [va_up_ne _ _ (by omega), hF.2.2 a (by omega) (by omega)]
  · obtain ⟨rfl, rfl⟩ := hsame hk
    exact ⟨E, R, g, hL.mv hn (fun _ _ => rfl) (fun _ _ => rfl), hm, hM, ho, fun z => absurd z hk⟩
theorem lw_aftV {g : Nat → Int64} {a : Option Value} (e1 : mb = c + 374) (e2 : o = c + 420) (e3 : K = c + 421) (hL : CL sh V n K a0 c E R S HH) (hm : isMo sh mb) (hM : Mo V mb T S HH) (ho : sh o = some (.inl (3, 1, some (.inr g)))) (hsame : k ≠ 0 → S' = S ∧ HH' = HH)
    (hp : (k = 0 ∧ (a = a ∧ (∃ E' R', CL sh9 V9 n9 K a0 c E' R' S' HH') ∧ FC c K sh V n sh9 V9 n9)) ∨ k ≠ 0 ∧ sh9 = sh ∧ V9 = V ∧ n ≤ n9) : ∃ E' R' g', CL sh9 V9 n9 K a0 c E' R' S' HH' ∧ isMo sh9 mb ∧ Mo V9 mb T S HH ∧ sh9 o = some (.inl (3, 1, some (.inr g'))) := by
  have hKn := hL.Kn
  rcases hp with ⟨hk, -, ⟨E', R', hL1⟩, hF⟩ | ⟨hk, rfl, rfl, hn⟩
  · exact ⟨E', R', g, hL1, hm.mv (fun a a1 a2 => hF.2.2 a (by omega) (by omega)), hM.mv (fun a a1 a2 => hF.2.1 a (by omega) (by omega)), by rw [hF.2.2 o (by omega) (by omega)]; exact ho⟩
  · obtain ⟨rfl, rfl⟩ := hsame hk
    exact ⟨E, R, g, hL.mv hn (fun _ _ => rfl) (fun _ _ => rfl), hm, hM, ho⟩
/-- behind the model's call -/
theorem lw_fin {g : Nat → Int64} (e1 : mb = c + 374) (e2 : o = c + 420) (e3 : K = c + 421) (hL : CL sh V n K a0 c E R S HH) (hm : isMo sh mb) (hM : Mo V' mb (fun _ => t) S HH) (hO : OU mb V V') (ho : sh o = some (.inl (3, 1, some (.inr g)))) (hJ : JI t HH) : LI K a0 c mb o sh V' n t :=
  ⟨E, R, S, HH, g, hL.mv (Nat.le_refl _) (fun _ _ => rfl) (fun a ha => hO a (by omega)), hm, hM, ho, hJ⟩
theorem mk_if {x : Int32} : (if k = 0 then mkI x else mkI (nI 0)) = some (.int (if k = 0 then x else nI 0)) := by split <;> rfl
theorem mk_ifV {x : Int32} : (if k = 0 then mkV x else mkV (nI 0)) = none := by split <;> rfl
theorem lg_cmp_self (u : Int64) : lg_cmp u u = 0 := by unfold lg_cmp; simp
def TS (T : List (Nat × Value)) : Prop := T = [] ∨ (∃ u, T = [(5, .int u)]) ∨ ∃ u v, T = [(5, .int u), (6, .int v)]
end LMV
