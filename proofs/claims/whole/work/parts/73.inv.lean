/-! WHAT HOLDS AFTER EVERY CALL -/
/-- of a channel -/
def CI (y : Ch) : Prop := y.1 3 ≤ 100 ∧ (∀ D, y.2.1 = some D → D ≤ 100) ∧ (y.2.1 = none → y.2.2.2.2 = []) ∧ (y.1 1 = 1 → y.2.2.2.1 = []) ∧ (y.2.2.1 = [] → y.1 11 = 0) ∧ ∀ t ts, y.2.2.1 = t :: ts → y.1 11 ≤ t.length
/-- of a host -/
def HV (H : Ho) : Prop := (∀ k, k < 4 → CI (H.2.1 k)) ∧ (∀ s, H.2.2.1 0 s ≤ 100) ∧ H.1 9 ≤ 255 ∧ H.1 10 < 4 ∧ H.1 7 ≤ H.2.2.2.2.2.1.length
section INV
variable {H : Ho} {y : Ch} {k : Nat}
theorem HV.hi (h : HV H) : HI H := fun k hk => by
  obtain ⟨a, b, c, e, -⟩ := h.1 k hk
  exact ⟨a, b, c, e⟩
theorem HV.si (h : HV H) : SI H := ⟨fun j hj t ts ht => (h.1 j hj).2.2.2.2.2 t ts ht, h.2.2.2.1, h.2.2.2.2⟩
theorem HV.c (h : HV H) (hy : CI y) : HV (hoC H k y) := by
  refine ⟨fun j hj => ?_, h.2⟩
  show CI (va_up H.2.1 k y j)
  by_cases q : j = k
  · rw [q, va_up_self]; exact hy
  · rw [va_up_ne _ _ q]; exact h.1 j hj
theorem HV.n (h : HV H) {j v : Nat} (hj : 10 < j) : HV (hoN H j v) := by
  obtain ⟨h1, h2, h3, h4, h5⟩ := h
  refine ⟨h1, h2, ?_, ?_, ?_⟩
  · show va_up H.1 j v 9 ≤ 255; rw [va_up_ne _ _ (by omega)]; exact h3
  · show va_up H.1 j v 10 < 4; rw [va_up_ne _ _ (by omega)]; exact h4
  · show va_up H.1 j v 7 ≤ _; rw [va_up_ne _ _ (by omega)]; exact h5
theorem HV.n9 (h : HV H) {v : Nat} (hv : v ≤ 255) : HV (hoN H 9 v) := by
  obtain ⟨h1, h2, h3, h4, h5⟩ := h
  refine ⟨h1, h2, ?_, ?_, ?_⟩
  · show va_up H.1 9 v 9 ≤ 255; rw [va_up_self]; exact hv
  · show va_up H.1 9 v 10 < 4; rw [va_up_ne _ _ (by omega)]; exact h4
  · show va_up H.1 9 v 7 ≤ _; rw [va_up_ne _ _ (by omega)]; exact h5
theorem HV.q (h : HV H) {Q : List (List Nat)} : HV (hoQ H Q) := h
theorem HV.g (h : HV H) {G : List Nat} : HV (hoG H G) := h
theorem HV.w (h : HV H) {W : List Pkt} : HV (hoW H W) := h
theorem ho_id_le (H : Ho) : ho_id H ≤ 255 := by unfold ho_id; split <;> omega
theorem CI.leave (h : CI y) (i : Nat) : CI (ch_leave y i) := by
  obtain ⟨a, b, c, e, f, g⟩ := h
  refine ⟨?_, fun D hD => (by cases hD), fun _ => rfl, fun h1 => ?_, fun _ => ?_, fun t ts ht => (by cases ht)⟩
  · show va_up (va_up (va_up y.1 1 3) 2 i) 11 0 3 ≤ 100; simpa [va_up] using a
  · exact absurd h1 (by show ¬ va_up (va_up (va_up y.1 1 3) 2 i) 11 0 1 = 1; simp [va_up])
  · show va_up (va_up (va_up y.1 1 3) 2 i) 11 0 11 = 0; simp [va_up]
theorem CI.close (h : CI y) : CI (ch_close y) := by
  obtain ⟨a, b, c, e, f, g⟩ := h
  refine ⟨?_, fun D hD => (by cases hD), fun _ => rfl, fun h1 => ?_, fun _ => ?_, fun t ts ht => (by cases ht)⟩
  · simpa [ch_close, va_up] using a
  · exact absurd h1 (by simp [ch_close, va_up])
  · simp [ch_close, va_up]
theorem CI.opn (h : CI y) (f m p c : Nat) : CI (ch_open y f m p c) := by
  obtain ⟨a, b, c', e, f', g⟩ := h
  refine ⟨?_, b, c', fun h1 => ?_, fun h1 => ?_, fun t ts ht => ?_⟩
  · simpa [ch_open, va_up] using a
  · exact absurd h1 (by simp [ch_open, va_up])
  · have := f' h1; simpa [ch_open, va_up] using this
  · have := g t ts ht; simpa [ch_open, va_up] using this
theorem CI.acc (h : CI y) {mt : Nat} (hm : mt ≤ 100) (mp cr f fm fp fc : Nat) : CI (ch_acc y mt mp cr f fm fp fc) := by
  obtain ⟨a, b, c, e, f', g⟩ := h
  refine ⟨?_, b, c, fun h1 => rfl, fun h1 => ?_, fun t ts ht => ?_⟩
  · simpa [ch_acc, ch_open, va_up] using hm
  · have := f' h1; simpa [ch_acc, ch_open, va_up] using this
  · have := g t ts ht; simpa [ch_acc, ch_open, va_up] using this
theorem CI.ask (h : CI y) {m : Nat} (hm : m ≤ 100) (i p cr : Nat) : CI (ch_ask y i m p cr) := by
  obtain ⟨a, b, c, e, f, g⟩ := h
  refine ⟨?_, b, c, fun h1 => rfl, fun h1 => ?_, fun t ts ht => ?_⟩
  · simpa [ch_ask, va_up] using hm
  · have := f h1; simpa [ch_ask, va_up] using this
  · have := g t ts ht; simpa [ch_ask, va_up] using this
theorem CI.num (h : CI y) {j v : Nat} (hj : j = 5 ∨ j = 9) : CI (va_up y.1 j v, y.2) := by
  obtain ⟨a, b, c, e, f, g⟩ := h
  have z : ∀ i, i = 1 ∨ i = 3 ∨ i = 11 → va_up y.1 j v i = y.1 i := fun i hi => va_up_ne _ _ (by omega)
  exact ⟨by show va_up y.1 j v 3 ≤ 100; rw [z 3 (by omega)]; exact a, b, c, fun h1 => e ((z 1 (by omega)).symm.trans h1), fun h1 => (z 11 (by omega)).trans (f h1), fun t ts ht => by show va_up y.1 j v 11 ≤ _; rw [z 11 (by omega)]; exact g t ts ht⟩
theorem CI.tx (h : CI y) (S : List Nat) : CI (txPut y S) := by
  obtain ⟨a, b, c, e, f, g⟩ := h
  refine ⟨a, b, c, e, fun h1 => ?_, fun t ts ht => ?_⟩
  · exact absurd h1 (by simp [txPut])
  · cases hx : y.2.2.1 with
    | nil =>
      have h0 : y.1 11 = 0 := f hx
      show y.1 11 ≤ t.length
      omega
    | cons t' ts' =>
      have : (txPut y S).2.2.1 = t' :: (ts' ++ [[S.length % 256, S.length / 256] ++ S]) := by simp [txPut, hx]
      rw [this] at ht
      cases ht
      exact g _ _ hx
theorem CI.rx (h : CI y) {x : List Nat} {rx : List (List Nat)} (hr : y.2.2.2.1 = x :: rx) : CI (rxDrop y rx) := by
  obtain ⟨a, b, c, e, f, g⟩ := h
  exact ⟨a, b, c, fun h1 => (by have := e h1; rw [hr] at this; cases this), f, g⟩
theorem CI.write (h : CI y) {t : List Nat} {ts : List (List Nat)} (ht : y.2.2.1 = t :: ts) : CI (ch_write y t ts) := by
  obtain ⟨a, b, c, e, f, g⟩ := h
  unfold ch_write
  split
  · next q =>
    refine ⟨?_, b, c, fun h1 => e ?_, fun h1 => ?_, fun t' ts' ht' => ?_⟩
    · simpa [va_up] using a
    · simpa [va_up] using h1
    · rw [ht] at h1; cases h1
    · have e1 : t = t' := by have := ht.symm.trans ht'; cases this; rfl
      rw [← e1]
      show va_up (va_up y.1 9 (y.1 9 - 1)) 11 (y.1 11 + min (y.1 8) (t.length - y.1 11)) 11 ≤ t.length
      rw [va_up_self]
      omega
  · refine ⟨?_, b, c, fun h1 => e ?_, fun h1 => ?_, fun t' ts' ht' => ?_⟩
    · simpa [va_up] using a
    · simpa [va_up] using h1
    · simp [va_up]
    · show va_up (va_up y.1 9 (y.1 9 - 1)) 11 0 11 ≤ _; rw [va_up_self]; omega
theorem CI.read2 (h : CI y) {D : Nat} (hD : y.2.1 = some D) (hs : y.1 1 ≠ 1) (zs : List Nat) : CI (ch_read2 y D zs).2 := by
  obtain ⟨a, b, c, e, f, g⟩ := id h
  unfold ch_read2
  split
  · exact h
  · split
    · exact ⟨a, b, fun h1 => (by rw [show y.2.1 = none from h1] at hD; cases hD), e, f, g⟩
    · unfold ch_keep
      split
      · exact ⟨a, b, fun h1 => (by rw [show y.2.1 = none from h1] at hD; cases hD), e, f, g⟩
      · exact ⟨a, fun D' h1 => (by cases h1), fun _ => rfl, fun h1 => absurd h1 hs, f, g⟩
theorem CI.read (h : CI y) (hs : y.1 1 ≠ 1) (us : List Nat) : CI (ch_read y us).2 := by
  unfold ch_read
  split
  · exact h
  · have h5 : CI (va_up y.1 5 (y.1 5 - 1), y.2) := h.num (Or.inl rfl)
    have hs5 : va_up y.1 5 (y.1 5 - 1) 1 ≠ 1 := by rw [va_up_ne _ _ (by decide)]; exact hs
    split
    · next D hD => exact h5.read2 hD hs5 _
    · next hD =>
      split
      · exact h5
      · next q =>
        have hn : num2 us 4 ≤ y.1 3 := by omega
        obtain ⟨a, b, c, e, f, g⟩ := h5
        have h6 : CI (va_up y.1 5 (y.1 5 - 1), some (num2 us 4), y.2.2) := ⟨a, fun D hD => by cases hD; have := h.1; omega, fun h1 => (by cases h1), e, f, g⟩
        exact h6.read2 rfl hs5 _
theorem HV.leave (h : HV H) (hk : k < 4) : HV (ho_leave H k) := ((h.n9 (ho_id_le H)).c ((h.1 k hk).leave _)).q
theorem HV.give (h : HV H) (hk : k < 4) (cr : Nat) : HV (ho_give H k cr) := ((h.n9 (ho_id_le H)).c ((h.1 k hk).num (Or.inl rfl))).q
theorem HV.ask (h : HV H) (hk : k < 4) {m : Nat} (hm : m ≤ 100) (s p cr : Nat) : HV (ho_ask H k s m p cr) := ((h.n9 (ho_id_le H)).c ((h.1 k hk).ask hm _ _ _)).q
theorem HV.tell (h : HV H) {s m : Nat} (hm : m ≤ 100) (p c : Nat) : HV (ho_tell H s m p c) := by
  refine ⟨h.1, fun t => ?_, h.2.2⟩
  unfold ho_tell
  by_cases q : t = s
  · subst q; simpa [hoS, va_up] using hm
  · simpa [hoS, va_up, q] using h.2.1 t
theorem HV.unit (h : HV H) : HV (ho_unit H).2 := by
  unfold ho_unit
  split
  · exact h
  · split
    · obtain ⟨h1, h2, h3, h4, h5⟩ := h
      refine ⟨h1, h2, ?_, ?_, ?_⟩
      · show va_up H.1 7 0 9 ≤ 255; rw [va_up_ne _ _ (by decide)]; exact h3
      · show va_up H.1 7 0 10 < 4; rw [va_up_ne _ _ (by decide)]; exact h4
      · show va_up H.1 7 0 7 ≤ _; rw [va_up_self]; omega
    · split
      · next i hi =>
        obtain ⟨h1, h2, h3, h4, h5⟩ := id h
        have hk : (H.1 10 + i) % 4 < 4 := by omega
        refine ⟨fun j hj => ?_, h2, ?_, ?_, ?_⟩
        · show CI (va_up H.2.1 ((H.1 10 + i) % 4) (ch_write1 (H.2.1 ((H.1 10 + i) % 4))) j)
          by_cases q : j = (H.1 10 + i) % 4
          · rw [q, va_up_self]
            unfold ch_write1
            split
            · next t ts ht => exact (h1 _ hk).write ht
            · exact h1 _ hk
          · rw [va_up_ne _ _ q]; exact h1 j hj
        · show va_up (va_up H.1 7 0) 10 (((H.1 10 + i) % 4 + 1) % 4) 9 ≤ 255; rw [va_up_ne _ _ (by decide), va_up_ne _ _ (by decide)]; exact h3
        · show va_up (va_up H.1 7 0) 10 (((H.1 10 + i) % 4 + 1) % 4) 10 < 4; rw [va_up_self]; omega
        · show va_up (va_up H.1 7 0) 10 (((H.1 10 + i) % 4 + 1) % 4) 7 ≤ _; rw [va_up_ne _ _ (by decide), va_up_self]; omega
      · exact h
theorem HV.put (h : HV H) : HV (ho_put H) := by
  obtain ⟨h1, h2, h3, h4, h5⟩ := h
  refine ⟨h1, h2, ?_, ?_, ?_⟩
  · show va_up H.1 7 (min (H.1 7 + 27) H.2.2.2.2.2.1.length) 9 ≤ 255; rw [va_up_ne _ _ (by decide)]; exact h3
  · show va_up H.1 7 (min (H.1 7 + 27) H.2.2.2.2.2.1.length) 10 < 4; rw [va_up_ne _ _ (by decide)]; exact h4
  · show va_up H.1 7 (min (H.1 7 + 27) H.2.2.2.2.2.1.length) 7 ≤ H.2.2.2.2.2.1.length; rw [va_up_self]; omega
theorem HV.send : ∀ (f : Nat) (H : Ho) (ps : List Pkt), HV H → HV (ho_send f H ps).1
  | 0, H, ps, h => by unfold ho_send; exact h
  | f + 1, H, ps, h => by
    unfold ho_send
    split
    · exact h
    · split
      · exact h.unit
      · exact HV.send f _ _ h.unit.put
theorem HV.sig (h : HV H) : HV (ho_sig H) := by
  unfold ho_sig
  split
  · exact h
  · split
    · exact (h.n (by decide)).q
    · unfold ho_sigd
      split
      · unfold ho_req
        split
        · next k hk =>
          split
          · exact (h.c ((h.1 k (first4_lt hk).1).acc (h.2.1 _) _ _ _ _ _ _)).q
          · exact h.q
        · exact h.q
      · split
        · unfold ho_ans
          split
          · next k hk =>
            unfold ho_ans1
            split
            · exact h.c ((h.1 k (first4_lt hk).1).opn _ _ _ _)
            · exact h.c (h.1 k (first4_lt hk).1).close
          · exact h
        · split
          · unfold ho_cred
            split
            · next k hk =>
              unfold ho_cred1
              split
              · exact h.leave (first4_lt hk).1
              · exact h.c ((h.1 k (first4_lt hk).1).num (Or.inr rfl))
            · exact h
          · split
            · unfold ho_lv
              split
              · next q => exact (h.c (h.1 _ (by omega)).close).q
              · exact (h.n (by decide)).q
            · split
              · unfold ho_left
                split
                · next q => exact h.c (h.1 _ (by omega)).close
                · exact h
              · unfold ho_rej
                split
                · next k hk => exact h.c (h.1 k (first4_lt hk).1).close
                · exact h
theorem HV.seg (h : HV H) (nb : Nat) : HV (ho_seg H nb) := by
  unfold ho_seg
  split
  · next q =>
    have hc := (h.1 (nb - 64) (by omega)).read (by omega) H.2.2.2.2.2.2
    split
    · exact h.c hc
    · exact (h.c hc).leave (by omega)
  · exact h.n (by decide)
theorem HV.unitH (h : HV H) : HV (ho_unitH H) := by
  unfold ho_unitH
  split
  · exact (HV.sig (h.n (by decide))).g
  · exact (HV.seg (h.n (by decide)) _).g
theorem HV.drop (h : HV H) : HV (ho_drop H) := (h.g).n (by decide)
theorem HV.gath2 (h : HV H) (ys : List Nat) : HV (ho_gath2 H ys).2 := by
  unfold ho_gath2
  split
  · exact h.g
  · split
    · exact HV.drop h.g
    · exact h.g
theorem HV.gath (h : HV H) (mk : Bool) (ys : List Nat) : HV (ho_gath H mk ys).2 := by
  unfold ho_gath
  split
  · split
    · exact h.gath2 ys
    · exact h.drop.gath2 ys
  · split
    · exact h.drop
    · split
      · exact h.drop
      · exact h.gath2 ys
theorem HV.take (h : HV H) (y : Pkt) (ps : List Pkt) : HV (ho_take H y ps) := by
  unfold ho_take
  split
  · exact (h.gath y.1 y.2.2).unitH.w
  · exact (h.gath y.1 y.2.2).w
theorem ho_gath_4 {mk : Bool} {ys : List Nat} (h : (ho_gath H mk ys).1 = true) : 4 ≤ (ho_gath H mk ys).2.2.2.2.2.2.2.length := by
  have g2 : ∀ H : Ho, (ho_gath2 H ys).1 = true → 4 ≤ (ho_gath2 H ys).2.2.2.2.2.2.2.length := by
    intro H h
    unfold ho_gath2 at h ⊢
    split at h
    · cases h
    · split at h
      · cases h
      · next q1 q2 => rw [if_neg q1, if_neg q2]; show 4 ≤ (H.2.2.2.2.2.2 ++ ys).length; omega
  unfold ho_gath at h ⊢
  split at h
  · next q =>
    rw [if_pos q]
    split at h
    · next q2 => rw [if_pos q2]; exact g2 _ h
    · next q2 => rw [if_neg q2]; exact g2 _ h
  · next q =>
    rw [if_neg q]
    split at h
    · cases h
    · next q2 =>
      rw [if_neg q2]
      split at h
      · cases h
      · next q3 => rw [if_neg q3]; exact g2 _ h
/-! how many signals wait -/
theorem Q_leave : (ho_leave H k).2.2.2.2.1.length = H.2.2.2.2.1.length + 1 := by simp [ho_leave]
theorem Q_unit : (ho_unit H).2.2.2.2.2.1.length ≤ H.2.2.2.2.1.length := by
  unfold ho_unit
  split
  · exact Nat.le_refl _
  · split
    · next x qs hq => rw [hq]; show qs.length ≤ (x :: qs).length; simp
    · split <;> exact Nat.le_refl _
theorem Q_send : ∀ (f : Nat) (H : Ho) (ps : List Pkt), (ho_send f H ps).1.2.2.2.2.1.length ≤ H.2.2.2.2.1.length
  | 0, H, ps => by unfold ho_send; exact Nat.le_refl _
  | f + 1, H, ps => by
    unfold ho_send
    split
    · exact Nat.le_refl _
    · split
      · exact Q_unit
      · exact Nat.le_trans (Q_send f _ _) Q_unit
theorem Q_sig : (ho_sig H).2.2.2.2.1.length ≤ H.2.2.2.2.1.length + 1 := by
  unfold ho_sig
  split
  · omega
  · split
    · simp
    · unfold ho_sigd
      split
      · unfold ho_req
        split
        · split
          · simp [ho_acc]
          · simp [ho_ref]
        · simp [ho_ref]
      · split
        · unfold ho_ans
          split
          · unfold ho_ans1
            split <;> exact Nat.le_succ _
          · exact Nat.le_succ _
        · split
          · unfold ho_cred
            split
            · unfold ho_cred1
              split
              · rw [Q_leave]; exact Nat.le_refl _
              · exact Nat.le_succ _
            · exact Nat.le_succ _
          · split
            · unfold ho_lv
              split <;> simp
            · split
              · unfold ho_left
                split <;> exact Nat.le_succ _
              · unfold ho_rej
                split <;> exact Nat.le_succ _
theorem Q_seg {nb : Nat} : (ho_seg H nb).2.2.2.2.1.length ≤ H.2.2.2.2.1.length + 1 := by
  unfold ho_seg
  split
  · split
    · exact Nat.le_succ _
    · rw [Q_leave]; exact Nat.le_refl _
  · exact Nat.le_succ _
theorem Q_unitH : (ho_unitH H).2.2.2.2.1.length ≤ H.2.2.2.2.1.length + 1 := by
  unfold ho_unitH
  split
  · exact Q_sig (H := hoN H 11 (H.1 11 + 1))
  · exact Q_seg (H := hoN H 11 (H.1 11 + 1))
theorem Q_gath {mk : Bool} {ys : List Nat} : (ho_gath H mk ys).2.2.2.2.2.1 = H.2.2.2.2.1 := by
  have g2 : ∀ H : Ho, (ho_gath2 H ys).2.2.2.2.2.1 = H.2.2.2.2.1 := by
    intro H
    unfold ho_gath2
    split
    · rfl
    · split <;> rfl
  unfold ho_gath
  split
  · split
    · exact g2 _
    · exact g2 _
  · split
    · rfl
    · split
      · rfl
      · exact g2 _
theorem Q_take {y : Pkt} {ps : List Pkt} : (ho_take H y ps).2.2.2.2.1.length ≤ H.2.2.2.2.1.length + 1 := by
  unfold ho_take
  split
  · have := Q_unitH (H := (ho_gath H y.1 y.2.2).2)
    rw [Q_gath] at this
    exact this
  · show (ho_gath H y.1 y.2.2).2.2.2.2.2.1.length ≤ _
    rw [Q_gath]
    omega
end INV
/-! WHEN NOTHING MORE CAN GO -/
theorem ho_send_len : ∀ (f : Nat) (H : Ho) (ps : List Pkt), ps.length ≤ (ho_send f H ps).2.length
  | 0, H, ps => by unfold ho_send; exact Nat.le_refl _
  | f + 1, H, ps => by
    unfold ho_send
    split
    · exact Nat.le_refl _
    · split
      · exact Nat.le_refl _
      · have := ho_send_len f (ho_put (ho_unit H).2) (ps ++ [ho_pkt (ho_unit H).2])
        simp at this
        omega
theorem ho_unit_id {H : Ho} (h : (ho_unit H).1 = false) : (ho_unit H).2 = H := by
  unfold ho_unit at h ⊢
  split at h
  · cases h
  · next q =>
    rw [if_neg q]
    split at h
    · cases h
    · next q2 =>
      split at h
      · cases h
      · rfl
/-- done: no buffer is left, no room is left, or there is nothing to send -/
def dn (H : Ho) (ps : List Pkt) : Prop := 4 ≤ sents ps ∨ 32 ≤ ps.length ∨ (ho_unit H).1 = false
theorem dn_send {H : Ho} {ps : List Pkt} (h : dn H ps) : ho_send (4 - sents ps) H ps = (H, ps) := by
  by_cases q : 4 ≤ sents ps
  · rw [show 4 - sents ps = 0 by omega]; unfold ho_send; rfl
  · obtain ⟨f, hf⟩ : ∃ f, 4 - sents ps = f + 1 := ⟨3 - sents ps, by omega⟩
    rw [hf]
    unfold ho_send
    split
    · rfl
    · next q2 =>
      have hu : (ho_unit H).1 = false := by rcases h with h | h | h; · omega
                                            · omega
                                            · exact h
      rw [if_pos hu, ho_unit_id hu]
theorem send_dn : ∀ (f : Nat) (H : Ho) (ps : List Pkt), 4 ≤ f + sents ps → dn (ho_send f H ps).1 (ho_send f H ps).2
  | 0, H, ps, h => by unfold ho_send; exact Or.inl (by show 4 ≤ sents ps; omega)
  | f + 1, H, ps, h => by
    unfold ho_send
    split
    · next q => exact Or.inr (Or.inl q)
    · split
      · next q => exact Or.inr (Or.inr (by rw [ho_unit_id q]; exact q))
      · have e : sents (ps ++ [ho_pkt (ho_unit H).2]) = sents ps + 1 := by
          unfold sents; rw [List.filter_append, List.length_append]; rfl
        exact send_dn f _ _ (by omega)
theorem ho_unit_w {H : Ho} {W : List Pkt} : (ho_unit (hoW H W)).1 = (ho_unit H).1 := by
  unfold ho_unit
  by_cases q : H.1 7 < H.2.2.2.2.2.1.length
  · rw [if_pos q, if_pos q]
  · rw [if_neg q, if_neg q]
    dsimp only
    cases H.2.2.2.2.1 with
    | cons x qs => rfl
    | nil =>
      dsimp only
      rw [show ho_next (hoW H W) = ho_next H from rfl]
      cases ho_next H <;> rfl
/-- both are done -/
def DN (HH : Nat → Ho) : Prop := dn (HH 0) (HH 1).2.2.2.1 ∧ dn (HH 1) (HH 0).2.2.2.1
theorem dn_w {H : Ho} {W ps : List Pkt} (h : dn H ps) : dn (hoW H W) ps := by
  unfold dn at h ⊢
  rw [ho_unit_w]
  exact h
theorem va_up_id2 {α : Type} {f : Nat → α} {i : Nat} {a : α} (h : f i = a) : va_up f i a = f := by rw [← h, va_up_id]
theorem DN_snd {HH : Nat → Ho} {i : Nat} (h : dn (HH i) (HH (1 - i)).2.2.2.1) : st_snd HH i = HH := by
  unfold st_snd
  rw [dn_send h]
  show va_up (va_up HH i (HH i)) (1 - i) (hoW (HH (1 - i)) (HH (1 - i)).2.2.2.1) = HH
  rw [va_up_id, show hoW (HH (1 - i)) (HH (1 - i)).2.2.2.1 = HH (1 - i) from rfl, va_up_id]
theorem DN.send {HH : Nat → Ho} (h : DN HH) : st_send HH = HH := by
  unfold st_send
  rw [DN_snd (i := 0) h.1, DN_snd (i := 1) h.2]
theorem send_DN (HH : Nat → Ho) (h : SI2 HH) : DN (st_send HH) := by
  have a0 := (h 0 (by decide)).2
  have a1 := (h 1 (by decide)).2
  unfold st_send
  have e00 : st_snd HH 0 0 = (ho_send (4 - sents (HH 1).2.2.2.1) (HH 0) (HH 1).2.2.2.1).1 := rfl
  have e01 : st_snd HH 0 1 = hoW (HH 1) (ho_send (4 - sents (HH 1).2.2.2.1) (HH 0) (HH 1).2.2.2.1).2 := rfl
  have d0 : dn (st_snd HH 0 0) (st_snd HH 0 1).2.2.2.1 := by
    rw [e00, e01]
    exact send_dn _ _ _ (by omega)
  obtain ⟨GG, hGG⟩ : ∃ GG, GG = st_snd HH 0 := ⟨_, rfl⟩
  rw [← hGG] at d0 ⊢
  have b0 : sents (GG 0).2.2.2.1 ≤ 4 := by rw [hGG]; exact ((h.snd (i := 0) (by decide)) 0 (by decide)).2
  have f1 : st_snd GG 1 1 = (ho_send (4 - sents (GG 0).2.2.2.1) (GG 1) (GG 0).2.2.2.1).1 := rfl
  have f0 : st_snd GG 1 0 = hoW (GG 0) (ho_send (4 - sents (GG 0).2.2.2.1) (GG 1) (GG 0).2.2.2.1).2 := rfl
  refine ⟨?_, ?_⟩
  · rw [f0, f1, ho_send_way]
    exact dn_w d0
  · rw [f0, f1]
    exact send_dn _ _ _ (by omega)
/-- packets that were not sent go behind a way: still done -/
theorem dn_inj {H : Ho} {ps qs : List Pkt} (h : dn H ps) : dn H (ps ++ qs) := by
  rcases h with h | h | h
  · refine Or.inl ?_
    unfold sents at h ⊢
    rw [List.filter_append, List.length_append]
    omega
  · exact Or.inr (Or.inl (by simp; omega))
  · exact Or.inr (Or.inr h)
