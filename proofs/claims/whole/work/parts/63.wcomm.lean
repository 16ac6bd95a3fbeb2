/-! what a host handles does not touch its way -/
section WCOMM
variable {H : Ho} {ps : List Pkt}
theorem W_tl (k : Nat) : tl (hoW H ps) k = tl H k := rfl
theorem W_leave (k : Nat) : ho_leave (hoW H ps) k = hoW (ho_leave H k) ps := rfl
theorem W_req (sid : Nat) : ho_req (hoW H ps) sid = hoW (ho_req H sid) ps := by
  unfold ho_req
  rw [show ho_closed (hoW H ps) = ho_closed H from rfl]
  cases ho_closed H with
  | none => rfl
  | some k =>
    dsimp only
    by_cases hc : ho_judge H (tl H 0) (tl H 1) (tl H 2) (tl H 3) = 0
    · rw [if_pos hc]; exact if_pos hc
    · rw [if_neg hc]; exact if_neg hc
theorem W_ans (sid : Nat) : ho_ans (hoW H ps) sid = hoW (ho_ans H sid) ps := by
  unfold ho_ans
  rw [show ho_by (hoW H ps) sid false = ho_by H sid false from rfl]
  cases ho_by H sid false with
  | none => rfl
  | some k =>
    dsimp only
    unfold ho_ans1
    by_cases hc : tl H 4 = 0 ∧ (64 ≤ tl H 0 ∧ tl H 0 ≤ 127) ∧ 23 ≤ tl H 1 ∧ 23 ≤ tl H 2
    · rw [if_pos hc]; exact if_pos hc
    · rw [if_neg hc]; exact if_neg hc
theorem W_rej (sid : Nat) : ho_rej (hoW H ps) sid = hoW (ho_rej H sid) ps := by
  unfold ho_rej
  rw [show ho_by (hoW H ps) sid true = ho_by H sid true from rfl]
  cases ho_by H sid true <;> rfl
theorem W_left : ho_left (hoW H ps) = hoW (ho_left H) ps := by
  unfold ho_left
  by_cases hc : (64 ≤ tl H 1 ∧ tl H 1 < 68) ∧ (H.2.1 (tl H 1 - 64)).1 1 = 3 ∧ (H.2.1 (tl H 1 - 64)).1 6 = tl H 0
  · rw [if_pos hc]; exact if_pos hc
  · rw [if_neg hc]; exact if_neg hc
theorem W_lv (sid : Nat) : ho_lv (hoW H ps) sid = hoW (ho_lv H sid) ps := by
  unfold ho_lv
  by_cases hc : (64 ≤ tl H 0 ∧ tl H 0 < 68) ∧ ch_far (H.2.1 (tl H 0 - 64)) (tl H 1) = true
  · rw [if_pos hc]; exact if_pos hc
  · rw [if_neg hc]; exact if_neg hc
theorem W_cred : ho_cred (hoW H ps) = hoW (ho_cred H) ps := by
  unfold ho_cred
  rw [show first4 (fun j => ((hoW H ps).2.1 j).1 1 == 2 && ((hoW H ps).2.1 j).1 6 == tl (hoW H ps) 0) = first4 (fun j => (H.2.1 j).1 1 == 2 && (H.2.1 j).1 6 == tl H 0) from rfl]
  cases first4 (fun j => (H.2.1 j).1 1 == 2 && (H.2.1 j).1 6 == tl H 0) with
  | none => rfl
  | some k =>
    dsimp only
    unfold ho_cred1
    by_cases hc : tl H 1 = 0 ∨ 65535 < (H.2.1 k).1 9 + tl H 1
    · rw [if_pos hc]; exact if_pos hc
    · rw [if_neg hc]; exact if_neg hc
theorem W_sigd (co sid : Nat) : ho_sigd (hoW H ps) co sid = hoW (ho_sigd H co sid) ps := by
  unfold ho_sigd
  rw [W_req, W_ans, W_cred, W_lv, W_left, W_rej]
  repeat' split
  all_goals rfl
theorem W_sig : ho_sig (hoW H ps) = hoW (ho_sig H) ps := by
  unfold ho_sig
  rw [W_sigd]
  dsimp only
  repeat' split
  all_goals rfl
theorem W_seg (nb : Nat) : ho_seg (hoW H ps) nb = hoW (ho_seg H nb) ps := by
  unfold ho_seg
  dsimp only
  repeat' split
  all_goals rfl
theorem W_unitH : ho_unitH (hoW H ps) = hoW (ho_unitH H) ps := by
  unfold ho_unitH
  rw [show hoN (hoW H ps) 11 ((hoW H ps).1 11 + 1) = hoW (hoN H 11 (H.1 11 + 1)) ps from rfl, W_sig, W_seg]
  dsimp only
  split <;> rfl
theorem W_gath2 (ys : List Nat) : ho_gath2 (hoW H ps) ys = ((ho_gath2 H ys).1, hoW (ho_gath2 H ys).2 ps) := by
  unfold ho_gath2
  dsimp only
  repeat' split
  all_goals rfl
theorem W_gath (mk : Bool) (ys : List Nat) : ho_gath (hoW H ps) mk ys = ((ho_gath H mk ys).1, hoW (ho_gath H mk ys).2 ps) := by
  unfold ho_gath
  rw [show ho_drop (hoW H ps) = hoW (ho_drop H) ps from rfl, W_gath2 (H := H), W_gath2 (H := ho_drop H)]
  dsimp only
  repeat' split
  all_goals rfl
theorem gth_take (y : Pkt) : ho_gth (hoW H ps) y.1 y.2.2 = ho_take H y ps := by
  unfold ho_gth ho_take
  rw [W_gath]
  dsimp only
  rw [W_unitH]
  split <;> rfl
end WCOMM
