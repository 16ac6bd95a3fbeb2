/-! ONE STEP IS SOUND -/
set_option maxRecDepth 100000 in
theorem ev_w_cro : Cond.castable RX3 "java/lang/Object" ∈ lw_tbl := List.mem_of_getElem? (i := 1202) (by rfl)
set_option maxRecDepth 100000 in
theorem ev_w_ai : Cond.arrayClass .int ∈ lw_tbl := List.mem_of_getElem? (i := 230) (by rfl)
set_option maxRecDepth 100000 in
theorem ev_w_ab : Cond.arrayClass .byte ∈ lw_tbl := List.mem_of_getElem? (i := 125) (by rfl)
set_option maxRecDepth 100000 in
theorem ev_w_az : Cond.arrayClass .boolean ∈ lw_tbl := List.mem_of_getElem? (i := 987) (by rfl)
set_option maxRecDepth 100000 in
theorem ev_w_al : Cond.arrayClass .long ∈ lw_tbl := List.mem_of_getElem? (i := 1192) (by rfl)
section ESS
variable {p : Program} {l : Launch} {e : Env} {R : Room} {s : State} {m : MethodId} {args : Array Value} {below : List Frame} {meth : Method} {cd : Code} {Q : State → Prop}
variable {D : va_G} {cy : Nat → ClassId} {z0 oc kd nl mc ms d : Nat} {bytes : ByteArray} {rt : Option FieldType} {code : List ev_I} {call : Nat → List Value → ev_H → Nat → ev_P → Prop} {sp : ev_F → (ev_F → Prop) → Prop} {Ret : ev_P}
set_option maxHeartbeats 8000000 in
set_option maxRecDepth 100000 in
theorem ev_step_sound (C0 : ev_C p s m args meth cd D cy z0 oc kd nl bytes) (hok : code.all (ev_okb oc kd bytes) = true) (hcall : ∀ m as f n Post md code, call m as f n Post → ev_ms[m]? = some (md, code) → ev_Mt l D cy z0 d md as f n Post) (hR : d + 1 ≤ R.frames ∧ 36 * d + 36 ≤ R.locals) (hRc : mc ≤ R.cells) (hRs : ms ≤ R.slots)
    (hret : ev_Rt p l e R s m args below meth cd D cy z0 mc ms rt bytes Ret Q)
    (hsp : ∀ g Y, (∀ h, Y h → ev_W p l e R s m args below meth cd D cy z0 nl mc ms Q h) → sp g Y → ev_W p l e R s m args below meth cd D cy z0 nl mc ms Q g)
    {g : ev_F} {Y : ev_F → Prop} (hY : ∀ h, Y h → ev_W p l e R s m args below meth cd D cy z0 nl mc ms Q h) (h : ev_step cy call sp oc mc ms nl rt code Y Ret g) : ev_W p l e R s m args below meth cd D cy z0 nl mc ms Q g := by
  obtain ⟨pc, L, st, f, n, c, sl⟩ := g
  unfold ev_step at h
  dsimp only at h
  split at h
  · exact h.elim
  next pc' i len a b w hat =>
  obtain ⟨hmem, hpc⟩ := ev_at_mem hat
  have hpc : pc = pc' := hpc
  subst hpc
  have hk := List.all_eq_true.mp hok _ hmem
  unfold ev_okb at hk
  dsimp only at hk
  simp only [Bool.and_eq_true] at hk
  obtain ⟨⟨hd0, hln⟩, ho⟩ := hk
  have hd := of_decide_eq_true hd0
  clear hd0
  split at h
  · exact hsp _ Y hY h
  next hb9 =>
  unfold ev_opb at ho
  rw [if_neg (by simpa using hb9)] at ho
  obtain ⟨hx, hb, hml, hown, hts, hnw, hK, hz, hin, hst0⟩ := id C0
  have go : ∀ {pc2 : Nat} {L2 : List (Nat × Value)} {st2 : List Value} {H : Heap} {ls : Array Slot} {locs : List Loc} {f2 : ev_H} {n2 c2 sl2 : Nat}, Y (pc2, L2, st2, f2, n2, c2, sl2) → ev_J D cy z0 s.heap f2 n2 H locs → lv_has ls nl L2 → (∀ q ∈ L2, q.2.category = 1) → c2 ≤ mc → sl2 ≤ ms → W p l e R s m args below meth cd H locs c2 sl2 Q (F0 m pc2 ls st2) := fun hy hJ hl hc hcm hsm => hY _ hy _ _ _ hJ hl hc hcm hsm
  cases i
  case iconst v =>
    have hlen : len = 1 := eq_of_beq hln
    have hw : w = Int32.ofInt v := eq_of_beq ho
    subst hlen
    exact fun H ls locs hJ hl hc hcm hsm => lv_iconst hx hb hd hw.symm (go h hJ hl hc hcm hsm)
  case bipush v =>
    have hlen : len = 2 := eq_of_beq hln
    have hw : w = (Int8.ofInt v).toInt32 := eq_of_beq ho
    subst hlen
    exact fun H ls locs hJ hl hc hcm hsm => lv_bipush hx hb hd hw.symm (go h hJ hl hc hcm hsm)
  case sipush v =>
    have hlen : len = 3 := eq_of_beq hln
    have hw : w = (Int16.ofInt v).toInt32 := eq_of_beq ho
    subst hlen
    exact fun H ls locs hJ hl hc hcm hsm => lv_sipush hx hb hd hw.symm (go h hJ hl hc hcm hsm)
  case ldc k =>
    have hlen : len = 2 := eq_of_beq hln
    subst hlen
    exact fun H ls locs hJ hl hc hcm hsm => lv_ldc hx hb hown (hts _ (ev_gw_in (ev_kt_s ho) rfl)) hd (go h hJ hl hc hcm hsm)
  case ldc_w k =>
    have hlen : len = 3 := eq_of_beq hln
    subst hlen
    exact fun H ls locs hJ hl hc hcm hsm => lv_ldcw hx hb hown (hts _ (ev_gw_in (ev_kt_s ho) rfl)) hd (go h hJ hl hc hcm hsm)
  case aconst_null =>
    have hlen : len = 1 := eq_of_beq hln
    subst hlen
    exact fun H ls locs hJ hl hc hcm hsm => lv_null hx hb hd (go h hJ hl hc hcm hsm)
  case lconst k =>
    have hlen : len = 1 := eq_of_beq hln
    subst hlen
    exact fun H ls locs hJ hl hc hcm hsm => lv_lconst hx hb hd rfl (go h hJ hl hc hcm hsm)
  case iload_n j =>
    have hlen : len = 1 := eq_of_beq hln
    subst hlen
    obtain ⟨v, hv, h11⟩ := ev_loc_s h
    obtain ⟨v, rfl, h12⟩ := ev_vi_s h11
    exact fun H ls locs hJ hl hc hcm hsm => lv_iload_n hx hb hd rfl (ev_has_mem hl hv) (go h12 hJ hl hc hcm hsm)
  case iload j =>
    have hlen : len = 2 := eq_of_beq hln
    subst hlen
    obtain ⟨v, hv, h11⟩ := ev_loc_s h
    obtain ⟨v, rfl, h12⟩ := ev_vi_s h11
    exact fun H ls locs hJ hl hc hcm hsm => lv_iload hx hb hd (ev_has_mem hl hv) (go h12 hJ hl hc hcm hsm)
  case aload_n j =>
    have hlen : len = 1 := eq_of_beq hln
    subst hlen
    obtain ⟨v, hv, h11⟩ := ev_loc_s h
    obtain ⟨q, rfl, h12⟩ := ev_vq_s h11
    cases q with
    | none => exact fun H ls locs hJ hl hc hcm hsm => lv_aload_nN hx hb hd rfl (ev_has_mem hl hv) (go h12 hJ hl hc hcm hsm)
    | some q => exact fun H ls locs hJ hl hc hcm hsm => lv_aload_n hx hb hd rfl (ev_has_mem hl hv) (go h12 hJ hl hc hcm hsm)
  case aload j =>
    have hlen : len = 2 := eq_of_beq hln
    subst hlen
    obtain ⟨v, hv, h11⟩ := ev_loc_s h
    obtain ⟨q, rfl, h12⟩ := ev_vq_s h11
    cases q with
    | none => exact fun H ls locs hJ hl hc hcm hsm => lv_aloadN hx hb hd (ev_has_mem hl hv) (go h12 hJ hl hc hcm hsm)
    | some q => exact fun H ls locs hJ hl hc hcm hsm => lv_aload hx hb hd (ev_has_mem hl hv) (go h12 hJ hl hc hcm hsm)
  case istore_n j =>
    have hlen : len = 1 := eq_of_beq hln
    subst hlen
    obtain ⟨hj, h⟩ := h
    obtain ⟨v, r, rfl, h11⟩ := ev_i_s h
    exact fun H ls locs hJ hl hc hcm hsm => lv_istore_n hx hb hd rfl hl hj rfl (fun ls' hl' => go h11 hJ (ev_set_has hl' hc) (ev_set_cat rfl hc) hcm hsm)
  case istore j =>
    have hlen : len = 2 := eq_of_beq hln
    subst hlen
    obtain ⟨hj, h⟩ := h
    obtain ⟨v, r, rfl, h11⟩ := ev_i_s h
    exact fun H ls locs hJ hl hc hcm hsm => lv_istore hx hb hd hl hj rfl (fun ls' hl' => go h11 hJ (ev_set_has hl' hc) (ev_set_cat rfl hc) hcm hsm)
  case astore_n j =>
    have hlen : len = 1 := eq_of_beq hln
    subst hlen
    obtain ⟨hj, h⟩ := h
    obtain ⟨v, r, rfl, h11⟩ := ev_q_s h
    cases v with
    | none => exact fun H ls locs hJ hl hc hcm hsm => lv_astore_nN hx hb hd rfl hl hj rfl (fun ls' hl' => go h11 hJ (ev_set_has hl' hc) (ev_set_cat rfl hc) hcm hsm)
    | some q => exact fun H ls locs hJ hl hc hcm hsm => lv_astore_n hx hb hd rfl hl hj rfl (fun ls' hl' => go h11 hJ (ev_set_has hl' hc) (ev_set_cat rfl hc) hcm hsm)
  case astore j =>
    have hlen : len = 2 := eq_of_beq hln
    subst hlen
    obtain ⟨hj, h⟩ := h
    obtain ⟨v, r, rfl, h11⟩ := ev_q_s h
    cases v with
    | none => exact fun H ls locs hJ hl hc hcm hsm => lv_astoreN hx hb hd hl hj rfl (fun ls' hl' => go h11 hJ (ev_set_has hl' hc) (ev_set_cat rfl hc) hcm hsm)
    | some q => exact fun H ls locs hJ hl hc hcm hsm => lv_astore hx hb hd hl hj rfl (fun ls' hl' => go h11 hJ (ev_set_has hl' hc) (ev_set_cat rfl hc) hcm hsm)
  case iinc j v =>
    have hlen : len = 3 := eq_of_beq hln
    have hw : w = Int32.ofInt v := eq_of_beq ho
    subst hlen
    obtain ⟨hj, h⟩ := h
    obtain ⟨u, hv, h11⟩ := ev_loc_s h
    obtain ⟨u, rfl, h12⟩ := ev_vi_s h11
    obtain ⟨kx, hkx⟩ := List.getElem?_of_mem hv
    exact fun H ls locs hJ hl hc hcm hsm => lv_iinc hx hb hd hl hkx (by rw [hw]) hj rfl (fun ls' hl' => go h12 hJ (ev_set_has hl' hc) (ev_set_cat rfl hc) hcm hsm)
  case iadd =>
    have hlen : len = 1 := eq_of_beq hln
    subst hlen
    obtain ⟨u, v, r, rfl, h11⟩ := ev_ii_s h
    exact fun H ls locs hJ hl hc hcm hsm => lv_iadd hx hb hd (go h11 hJ hl hc hcm hsm)
  case isub =>
    have hlen : len = 1 := eq_of_beq hln
    subst hlen
    obtain ⟨u, v, r, rfl, h11⟩ := ev_ii_s h
    exact fun H ls locs hJ hl hc hcm hsm => lv_isub hx hb hd (go h11 hJ hl hc hcm hsm)
  case imul =>
    have hlen : len = 1 := eq_of_beq hln
    subst hlen
    obtain ⟨u, v, r, rfl, h11⟩ := ev_ii_s h
    exact fun H ls locs hJ hl hc hcm hsm => lv_imul hx hb hd (go h11 hJ hl hc hcm hsm)
  case iand =>
    have hlen : len = 1 := eq_of_beq hln
    subst hlen
    obtain ⟨u, v, r, rfl, h11⟩ := ev_ii_s h
    exact fun H ls locs hJ hl hc hcm hsm => lv_iand hx hb hd (go h11 hJ hl hc hcm hsm)
  case ior =>
    have hlen : len = 1 := eq_of_beq hln
    subst hlen
    obtain ⟨u, v, r, rfl, h11⟩ := ev_ii_s h
    exact fun H ls locs hJ hl hc hcm hsm => lv_ior hx hb hd (go h11 hJ hl hc hcm hsm)
  case ishl =>
    have hlen : len = 1 := eq_of_beq hln
    subst hlen
    obtain ⟨u, v, r, rfl, h11⟩ := ev_ii_s h
    exact fun H ls locs hJ hl hc hcm hsm => lv_ishl hx hb hd (go h11 hJ hl hc hcm hsm)
  case ishr =>
    have hlen : len = 1 := eq_of_beq hln
    subst hlen
    obtain ⟨u, v, r, rfl, h11⟩ := ev_ii_s h
    exact fun H ls locs hJ hl hc hcm hsm => lv_ishr hx hb hd (go h11 hJ hl hc hcm hsm)
  case idiv =>
    have hlen : len = 1 := eq_of_beq hln
    subst hlen
    obtain ⟨u, v, r, rfl, h0, h11⟩ := ev_ii_s h
    exact fun H ls locs hJ hl hc hcm hsm => lv_idiv hx hb hd h0 (go h11 hJ hl hc hcm hsm)
  case irem =>
    have hlen : len = 1 := eq_of_beq hln
    subst hlen
    obtain ⟨u, v, r, rfl, h0, h11⟩ := ev_ii_s h
    exact fun H ls locs hJ hl hc hcm hsm => lv_irem hx hb hd h0 (go h11 hJ hl hc hcm hsm)
  case i2b =>
    have hlen : len = 1 := eq_of_beq hln
    subst hlen
    obtain ⟨u, r, rfl, h11⟩ := ev_i_s h
    exact fun H ls locs hJ hl hc hcm hsm => lv_i2b hx hb hd rfl (go h11 hJ hl hc hcm hsm)
  case i2l =>
    have hlen : len = 1 := eq_of_beq hln
    subst hlen
    obtain ⟨u, r, rfl, h11⟩ := ev_i_s h
    exact fun H ls locs hJ hl hc hcm hsm => lv_i2l hx hb hd rfl (go h11 hJ hl hc hcm hsm)
  case lcmp =>
    have hlen : len = 1 := eq_of_beq hln
    subst hlen
    obtain ⟨v, r, rfl, h11⟩ := ev_l_s h
    obtain ⟨u, r2, rfl, h12⟩ := ev_l_s h11
    exact fun H ls locs hJ hl hc hcm hsm => W.lcmp hx hb hd (go h12 hJ hl hc hcm hsm)
  case dup =>
    have hlen : len = 1 := eq_of_beq hln
    subst hlen
    obtain ⟨u, r, rfl, hu, h11⟩ := ev_w_s h
    exact fun H ls locs hJ hl hc hcm hsm => lv_dup hx hb hd hu (go h11 hJ hl hc hcm hsm)
  case dup_x1 =>
    have hlen : len = 1 := eq_of_beq hln
    subst hlen
    obtain ⟨u, r, rfl, hu, h11⟩ := ev_w_s h
    obtain ⟨v, r2, rfl, hv, h12⟩ := ev_w_s h11
    exact fun H ls locs hJ hl hc hcm hsm => lv_dup_x1 hx hb hd hu hv (go h12 hJ hl hc hcm hsm)
  case dup2 =>
    have hlen : len = 1 := eq_of_beq hln
    subst hlen
    obtain ⟨u, r, rfl, hu, h11⟩ := ev_w_s h
    obtain ⟨v, r2, rfl, hv, h12⟩ := ev_w_s h11
    exact fun H ls locs hJ hl hc hcm hsm => lv_dup2_11 hx hb hd hu hv (go h12 hJ hl hc hcm hsm)
  case pop =>
    have hlen : len = 1 := eq_of_beq hln
    subst hlen
    obtain ⟨u, r, rfl, hu, h11⟩ := ev_w_s h
    exact fun H ls locs hJ hl hc hcm hsm => lv_pop hx hb hd hu (go h11 hJ hl hc hcm hsm)
  case goto o =>
    have hlen : len = 3 := eq_of_beq hln
    have ht : (pc : Int) + o = (a : Int) := eq_of_beq ho
    subst hlen
    exact fun H ls locs hJ hl hc hcm hsm => lv_goto hx hb hd ht (go h hJ hl hc hcm hsm)
  case ifnull o =>
    have hlen : len = 3 := eq_of_beq hln
    have ht : (pc : Int) + o = (a : Int) := eq_of_beq ho
    subst hlen
    obtain ⟨u, r, rfl, h1, h2⟩ := ev_q_s h
    cases u with
    | none => exact fun H ls locs hJ hl hc hcm hsm => lv_ifnullN hx hb hd ht (go (h1 rfl) hJ hl hc hcm hsm)
    | some q => exact fun H ls locs hJ hl hc hcm hsm => lv_ifnull hx hb hd (go (h2 (fun h => by cases h)) hJ hl hc hcm hsm)
  case ifnonnull o =>
    have hlen : len = 3 := eq_of_beq hln
    have ht : (pc : Int) + o = (a : Int) := eq_of_beq ho
    subst hlen
    obtain ⟨u, r, rfl, h1, h2⟩ := ev_q_s h
    cases u with
    | none => exact fun H ls locs hJ hl hc hcm hsm => lv_ifnonnullN hx hb hd (go (h1 rfl) hJ hl hc hcm hsm)
    | some q => exact fun H ls locs hJ hl hc hcm hsm => lv_ifnonnull hx hb hd ht (go (h2 (fun h => by cases h)) hJ hl hc hcm hsm)
  case ifCond cnd o =>
    have hlen : len = 3 := eq_of_beq hln
    have ht : (pc : Int) + o = (a : Int) := eq_of_beq ho
    subst hlen
    cases cnd with
    | eq =>
      obtain ⟨u, r, rfl, h1, h2⟩ := ev_i_s h
      exact fun H ls locs hJ hl hc hcm hsm => lv_if_eq hx hb hd ht (fun q => go (h1 q) hJ hl hc hcm hsm) (fun q => go (h2 q) hJ hl hc hcm hsm)
    | ne =>
      obtain ⟨u, r, rfl, h1, h2⟩ := ev_i_s h
      exact fun H ls locs hJ hl hc hcm hsm => lv_if_ne hx hb hd ht (fun q => go (h2 q) hJ hl hc hcm hsm) (fun q => go (h1 q) hJ hl hc hcm hsm)
    | lt =>
      obtain ⟨u, r, rfl, h1, h2⟩ := ev_i_s h
      exact fun H ls locs hJ hl hc hcm hsm => lv_if_lt hx hb hd ht (fun q => go (h1 q) hJ hl hc hcm hsm) (fun q => go (h2 q) hJ hl hc hcm hsm)
    | ge =>
      obtain ⟨u, r, rfl, h1, h2⟩ := ev_i_s h
      exact fun H ls locs hJ hl hc hcm hsm => lv_if_ge hx hb hd ht (fun q => go (h2 (Int32.not_lt.mpr q)) hJ hl hc hcm hsm) (fun q => go (h1 (Int32.not_le.mp q)) hJ hl hc hcm hsm)
    | gt =>
      obtain ⟨u, r, rfl, h1, h2⟩ := ev_i_s h
      exact fun H ls locs hJ hl hc hcm hsm => lv_if_gt hx hb hd ht (fun q => go (h2 (Int32.not_le.mpr q)) hJ hl hc hcm hsm) (fun q => go (h1 (Int32.not_lt.mp q)) hJ hl hc hcm hsm)
    | le =>
      obtain ⟨u, r, rfl, h1, h2⟩ := ev_i_s h
      exact fun H ls locs hJ hl hc hcm hsm => lv_if_le hx hb hd ht (fun q => go (h1 q) hJ hl hc hcm hsm) (fun q => go (h2 q) hJ hl hc hcm hsm)
  case if_icmp cnd o =>
    have hlen : len = 3 := eq_of_beq hln
    have ht : (pc : Int) + o = (a : Int) := eq_of_beq ho
    subst hlen
    cases cnd with
    | eq =>
      obtain ⟨u, v, r, rfl, h1, h2⟩ := ev_ii_s h
      exact fun H ls locs hJ hl hc hcm hsm => lv_icmp_eq hx hb hd ht (fun q => go (h1 q) hJ hl hc hcm hsm) (fun q => go (h2 q) hJ hl hc hcm hsm)
    | ne =>
      obtain ⟨u, v, r, rfl, h1, h2⟩ := ev_ii_s h
      exact fun H ls locs hJ hl hc hcm hsm => lv_icmp_ne hx hb hd ht (fun q => go (h2 q) hJ hl hc hcm hsm) (fun q => go (h1 q) hJ hl hc hcm hsm)
    | lt =>
      obtain ⟨u, v, r, rfl, h1, h2⟩ := ev_ii_s h
      exact fun H ls locs hJ hl hc hcm hsm => lv_icmp_lt hx hb hd ht (fun q => go (h1 q) hJ hl hc hcm hsm) (fun q => go (h2 q) hJ hl hc hcm hsm)
    | ge =>
      obtain ⟨u, v, r, rfl, h1, h2⟩ := ev_ii_s h
      exact fun H ls locs hJ hl hc hcm hsm => lv_icmp_ge hx hb hd ht (fun q => go (h2 (Int32.not_lt.mpr q)) hJ hl hc hcm hsm) (fun q => go (h1 (Int32.not_le.mp q)) hJ hl hc hcm hsm)
    | gt =>
      obtain ⟨u, v, r, rfl, h1, h2⟩ := ev_ii_s h
      exact fun H ls locs hJ hl hc hcm hsm => lv_icmp_gt hx hb hd ht (fun q => go (h2 (Int32.not_le.mpr q)) hJ hl hc hcm hsm) (fun q => go (h1 (Int32.not_lt.mp q)) hJ hl hc hcm hsm)
    | le =>
      obtain ⟨u, v, r, rfl, h1, h2⟩ := ev_ii_s h
      exact fun H ls locs hJ hl hc hcm hsm => lv_icmp_le hx hb hd ht (fun q => go (h1 q) hJ hl hc hcm hsm) (fun q => go (h2 q) hJ hl hc hcm hsm)
  case tableswitch dd lo hi offs =>
    obtain ⟨u, r, rfl, h1, h2⟩ := ev_i_s h
    intro H ls locs hJ hl hc hcm hsm
    by_cases hout : u.toInt < lo ∨ hi < u.toInt
    · obtain ⟨g1, g2⟩ := h1 hout
      exact lv_tableOut hx hb hd hout (Int.toNat_of_nonneg g1).symm (go g2 hJ hl hc hcm hsm)
    · have hlo : ¬ u.toInt < lo := fun q => hout (Or.inl q)
      have hhi : ¬ hi < u.toInt := fun q => hout (Or.inr q)
      have h3 := h2 hlo hhi
      unfold ev_sw at h3
      split at h3
      · next off hoff =>
        obtain ⟨g1, g2⟩ := h3
        exact lv_tableIn hx hb hd hlo hhi (by rw [← Array.getElem?_toList]; exact hoff) (Int.toNat_of_nonneg g1).symm (go g2 hJ hl hc hcm hsm)
      · exact h3.elim
  case lookupswitch dd ps =>
    obtain ⟨u, r, rfl, g1, g2⟩ := ev_i_s h
    intro H ls locs hJ hl hc hcm hsm
    exact lv_lookup hx hb hd ho rfl (Int.toNat_of_nonneg g1).symm (go g2 hJ hl hc hcm hsm)
  case getfield k =>
    have hlen : len = 3 := eq_of_beq hln
    subst hlen
    obtain ⟨q, r, rfl, h11⟩ := ev_r_s h
    obtain ⟨fs, hf, h12⟩ := ev_ob_s h11
    obtain ⟨v, hv, h13⟩ := ev_nth_s h12
    exact fun H ls locs hJ hl hc hcm hsm => es_get C0 hJ hf hv ho hd (go h13 hJ hl hc hcm hsm)
  case putfield k =>
    have hlen : len = 3 := eq_of_beq hln
    subst hlen
    obtain ⟨v, r, rfl, -, h11⟩ := ev_w_s h
    obtain ⟨q, r2, rfl, h12⟩ := ev_r_s h11
    obtain ⟨fs, hf, hbl, hft, h13⟩ := ev_ob_s h12
    simp only [Bool.and_eq_true, Bool.or_eq_true] at ho
    obtain ⟨ho, hfn⟩ := ho
    have hfn : ev_fin a b = false ∨ (kd = 2 ∧ w = 0 ∧ (vwCl.map fun q => q.1)[a]? = some (ev_on oc)) := by
      rcases hfn with hfn | ⟨⟨g1, g2⟩, g3⟩
      · exact Or.inl (by simpa using hfn)
      · exact Or.inr ⟨eq_of_beq g1, eq_of_beq g2, of_decide_eq_true g3⟩
    exact fun H ls locs hJ hl hc hcm hsm => es_put C0 hJ hf hbl hft ho hfn hd (fun H1 locs1 hJ1 => go h13 hJ1 hl hc hcm hsm)
  case arraylength =>
    have hlen : len = 1 := eq_of_beq hln
    subst hlen
    obtain ⟨q, r, rfl, h11⟩ := ev_r_s h
    obtain ⟨cA, z, gg, hf, h12⟩ := ev_len_s h11
    exact fun H ls locs hJ hl hc hcm hsm => es_alen C0 hJ hf hd (go h12 hJ hl hc hcm hsm)
  case iaload =>
    have hlen : len = 1 := eq_of_beq hln
    subst hlen
    obtain ⟨u, r, rfl, h11⟩ := ev_i_s h
    obtain ⟨q, r2, rfl, h12⟩ := ev_r_s h11
    obtain ⟨z, gg, hf, hi, h13⟩ := ev_ai_s h12
    exact fun H ls locs hJ hl hc hcm hsm => es_iald C0 hJ hf hi hd (go h13 hJ hl hc hcm hsm)
  case baload =>
    have hlen : len = 1 := eq_of_beq hln
    subst hlen
    obtain ⟨u, r, rfl, h11⟩ := ev_i_s h
    obtain ⟨q, r2, rfl, h12⟩ := ev_r_s h11
    obtain ⟨z, gg, hf, hi, h13⟩ := ev_ai_s h12
    exact fun H ls locs hJ hl hc hcm hsm => es_bald C0 hJ hf hi hd (go h13 hJ hl hc hcm hsm)
  case laload =>
    have hlen : len = 1 := eq_of_beq hln
    subst hlen
    obtain ⟨u, r, rfl, h11⟩ := ev_i_s h
    obtain ⟨q, r2, rfl, h12⟩ := ev_r_s h11
    obtain ⟨z, gg, hf, hi, h13⟩ := ev_al_s h12
    exact fun H ls locs hJ hl hc hcm hsm => es_lald C0 hJ hf hi hd (go h13 hJ hl hc hcm hsm)
  case aaload =>
    have hlen : len = 1 := eq_of_beq hln
    subst hlen
    obtain ⟨u, r, rfl, h11⟩ := ev_i_s h
    obtain ⟨q, r2, rfl, h12⟩ := ev_r_s h11
    obtain ⟨cA, z, gg, hf, hi, h13⟩ := ev_aq_s h12
    exact fun H ls locs hJ hl hc hcm hsm => es_aald C0 hJ hf hi hd (go h13 hJ hl hc hcm hsm)
  case iastore =>
    have hlen : len = 1 := eq_of_beq hln
    subst hlen
    obtain ⟨v, r, rfl, h11⟩ := ev_i_s h
    obtain ⟨u, r2, rfl, h12⟩ := ev_i_s h11
    obtain ⟨q, r3, rfl, h13⟩ := ev_r_s h12
    obtain ⟨z, gg, hf, hi, h14⟩ := ev_ai_s h13
    exact fun H ls locs hJ hl hc hcm hsm => es_iast C0 hJ hf hi hd (fun H1 locs1 hJ1 => go h14 hJ1 hl hc hcm hsm)
  case bastore =>
    have hlen : len = 1 := eq_of_beq hln
    subst hlen
    obtain ⟨v, r, rfl, h11⟩ := ev_i_s h
    obtain ⟨u, r2, rfl, h12⟩ := ev_i_s h11
    obtain ⟨q, r3, rfl, h13⟩ := ev_r_s h12
    obtain ⟨z, gg, hf, hi, h14⟩ := ev_ai_s h13
    exact fun H ls locs hJ hl hc hcm hsm => es_bast C0 hJ hf hi hd (fun H1 locs1 hJ1 => go h14 hJ1 hl hc hcm hsm)
  case lastore =>
    have hlen : len = 1 := eq_of_beq hln
    subst hlen
    obtain ⟨v, r, rfl, h11⟩ := ev_l_s h
    obtain ⟨u, r2, rfl, h12⟩ := ev_i_s h11
    obtain ⟨q, r3, rfl, h13⟩ := ev_r_s h12
    obtain ⟨z, gg, hf, hi, h14⟩ := ev_al_s h13
    exact fun H ls locs hJ hl hc hcm hsm => es_last C0 hJ hf hi hd (fun H1 locs1 hJ1 => go h14 hJ1 hl hc hcm hsm)
  case aastore =>
    have hlen : len = 1 := eq_of_beq hln
    subst hlen
    obtain ⟨v, r, rfl, h11⟩ := ev_q_s h
    obtain ⟨u, r2, rfl, h12⟩ := ev_i_s h11
    obtain ⟨q, r3, rfl, h13⟩ := ev_r_s h12
    obtain ⟨cA, z, gg, hf, rfl, hi, hv, h14⟩ := ev_aq_s h13
    have hab : (a = 7 ∧ b = 4) ∨ (a = 4 ∧ b = 1) ∨ (a = 5 ∧ b = 2) ∨ (a = 6 ∧ b = 3) ∨ (a = 8 ∧ b = 4) := by simpa using ho
    have ht : ∃ (C : String) (cC : vw_C), (ev_tyl cy)[a]? = some (cy a, .object C) ∧ vwCl[b]? = some cC ∧ (C = cC.1 ∨ Cond.castable cC.1 C ∈ lw_tbl) := by
      rcases hab with ⟨rfl, rfl⟩ | ⟨rfl, rfl⟩ | ⟨rfl, rfl⟩ | ⟨rfl, rfl⟩ | ⟨rfl, rfl⟩
      · exact ⟨_, _, rfl, rfl, Or.inl rfl⟩
      · exact ⟨_, _, rfl, rfl, Or.inl rfl⟩
      · exact ⟨_, _, rfl, rfl, Or.inl rfl⟩
      · exact ⟨_, _, rfl, rfl, Or.inl rfl⟩
      · exact ⟨_, _, rfl, rfl, Or.inr ev_w_cro⟩
    obtain ⟨C, cC, ht, hcC, hcast⟩ := ht
    cases v with
    | none => exact fun H ls locs hJ hl hc hcm hsm => es_aastN C0 hJ hf ht hi hd (fun H1 locs1 hJ1 => go h14 hJ1 hl hc hcm hsm)
    | some v =>
      obtain ⟨vs, hfv, -⟩ := ev_ob_s hv
      exact fun H ls locs hJ hl hc hcm hsm => es_aast C0 hJ hf ht hfv hcC hcast hi hd (fun H1 locs1 hJ1 => go h14 hJ1 hl hc hcm hsm)
  case new k =>
    have hlen : len = 3 := eq_of_beq hln
    subst hlen
    obtain ⟨g1, g2, h⟩ := h
    exact fun H ls locs hJ hl hc hcm hsm => es_new C0 hJ ho (Nat.le_trans g1 hRc) (Nat.le_trans g2 hRs) hd (fun H1 hJ1 => go h hJ1 hl hc g1 g2)
  case newarray ty =>
    have hlen : len = 2 := eq_of_beq hln
    subst hlen
    obtain ⟨ha4, h⟩ := h
    obtain ⟨u, r, rfl, h0, g1, g2, g3, h14⟩ := ev_i_s h
    cases ty with
    | int =>
      have ha : a = 1 := eq_of_beq ho
      subst ha
      exact fun H ls locs hJ hl hc hcm hsm => es_newi C0 hJ (t := 1) (cb := 4) h0 rfl (Nat.le_trans g1 hRc) (Nat.le_trans g2 hRs) hd ev_w_ai rfl id rfl (by omega) (g := .inl fun _ => 0) rfl (mh_T1.i 1 rfl) (fun H1 hJ1 => go h14 hJ1 hl hc g1 g2)
    | byte =>
      have ha : a = 0 := eq_of_beq ho
      subst ha
      exact fun H ls locs hJ hl hc hcm hsm => es_newi C0 hJ (t := 0) (cb := 1) h0 rfl (Nat.le_trans g1 hRc) (Nat.le_trans g2 hRs) hd ev_w_ab rfl id rfl (by omega) (g := .inl fun _ => 0) rfl (mh_T1.i 0 rfl) (fun H1 hJ1 => go h14 hJ1 hl hc g1 g2)
    | boolean =>
      have ha : a = 2 := eq_of_beq ho
      subst ha
      exact fun H ls locs hJ hl hc hcm hsm => es_newi C0 hJ (t := 2) (cb := 1) h0 rfl (Nat.le_trans g1 hRc) (Nat.le_trans g2 hRs) hd ev_w_az rfl id rfl (by omega) (g := .inl fun _ => 0) rfl (mh_T1.i 2 rfl) (fun H1 hJ1 => go h14 hJ1 hl hc g1 g2)
    | long =>
      have ha : a = 3 := eq_of_beq ho
      subst ha
      exact fun H ls locs hJ hl hc hcm hsm => es_newi C0 hJ (t := 3) (cb := 8) h0 rfl (Nat.le_trans g1 hRc) (Nat.le_trans g2 hRs) hd ev_w_al rfl id rfl (by omega) (g := .inr (.inl fun _ => 0)) rfl (mh_T1.l 3 rfl) (fun H1 hJ1 => go h14 hJ1 hl hc g1 g2)
    | _ => exact absurd (show a = 77 from eq_of_beq ho) (by omega)
  case anewarray k =>
    have hlen : len = 3 := eq_of_beq hln
    subst hlen
    obtain ⟨u, r, rfl, h0, g1, g2, g3, h11⟩ := ev_i_s h
    exact fun H ls locs hJ hl hc hcm hsm => es_anew C0 hJ ho h0 (Nat.le_trans g1 hRc) (Nat.le_trans g2 hRs) g3 hd (fun H1 hJ1 => go h11 hJ1 hl hc g1 g2)
  case invokestatic k =>
    have hlen : len = 3 := eq_of_beq hln
    subst hlen
    simp only [Bool.and_eq_true, Bool.or_eq_true] at ho
    obtain ⟨ho, hbb⟩ := ho
    by_cases h6 : b = 6
    · rw [if_pos h6] at h
      obtain ⟨u, v, r, rfl, hsum, h14⟩ := ev_ii_s h
      have hl1 := (ev_mt_s ho).2.1 h6
      exact fun H ls locs hJ hl hc hcm hsm => va_mmax hx hb (hml.trans hl.1.symm) hown (hts _ (ev_gw_in hl1 rfl)) (hts _ (ev_gw_in ev_w_xs rfl)) (hts _ (ev_gw_in ev_w_ms rfl)) (hts _ (ev_gw_in ev_w_xc rfl)) (by omega) (by omega) (Nat.le_trans hcm hRc) (Nat.le_trans hsm hRs) hd (go h14 hJ hl hc hcm hsm)
    rw [if_neg h6] at h
    by_cases h7 : b = 7
    · rw [if_pos h7] at h
      obtain ⟨u, v, r, rfl, hsum, h14⟩ := ev_ii_s h
      have hl1 := (ev_mt_s ho).2.2.1 h7
      exact fun H ls locs hJ hl hc hcm hsm => va_mmin hx hb (hml.trans hl.1.symm) hown (hts _ (ev_gw_in hl1 rfl)) (hts _ (ev_gw_in ev_w_ns rfl)) (hts _ (ev_gw_in ev_w_ms rfl)) (hts _ (ev_gw_in ev_w_nc rfl)) (by omega) (by omega) (Nat.le_trans hcm hRc) (Nat.le_trans hsm hRs) hd (go h14 hJ hl hc hcm hsm)
    rw [if_neg h7] at h
    have hb03 : b = 0 ∨ b = 3 := by
      rcases hbb with ((g | g) | g) | g
      · exact Or.inl (eq_of_beq g)
      · exact Or.inr (eq_of_beq g)
      · exact absurd (eq_of_beq g) h6
      · exact absurd (eq_of_beq g) h7
    exact es_inv C0 hcall hR hRc hRs hY h ho (Or.inl ⟨rfl, hb03, hd⟩)
  case invokespecial k =>
    have hlen : len = 3 := eq_of_beq hln
    subst hlen
    simp only [Bool.and_eq_true, Bool.or_eq_true] at ho
    obtain ⟨ho, hbb⟩ := ho
    by_cases h5 : b = 5
    · rw [if_pos h5] at h
      obtain ⟨q, r, rfl, hsum, h14⟩ := ev_r_s h
      have hl1 := (ev_mt_s ho).1 h5
      exact fun H ls locs hJ hl hc hcm hsm => W.objInit hx hb hown (hts _ (ev_gw_in hl1 rfl)) (hts _ (ev_gw_in ev_w_oi rfl)) (hts _ (ev_gw_in ev_w_oc rfl)) rfl (hl.1.trans hml.symm) rfl hd (by omega) (by show 2 * 0 + _ + 12 ≤ _; omega) (go h14 hJ hl hc hcm hsm)
    rw [if_neg h5] at h
    have hb2 : b = 2 := by
      rcases hbb with g | g
      · exact eq_of_beq g
      · exact absurd (eq_of_beq g) h5
    exact es_inv C0 hcall hR hRc hRs hY h ho (Or.inr (Or.inl ⟨rfl, hb2, hd⟩))
  case invokevirtual k =>
    have hlen : len = 3 := eq_of_beq hln
    subst hlen
    rw [Bool.and_eq_true] at ho
    exact es_inv C0 hcall hR hRc hRs hY h ho.1 (Or.inr (Or.inr ⟨rfl, eq_of_beq ho.2, hd⟩))
  case checkcast k =>
    have hlen : len = 3 := eq_of_beq hln
    subst hlen
    obtain ⟨v, r, rfl, hv, h14⟩ := ev_q_s h
    cases v with
    | none => exact fun H ls locs hJ hl hc hcm hsm => lv_castN hx hb hd (go h14 hJ hl hc hcm hsm)
    | some q =>
      obtain ⟨vs, hfv, -⟩ := ev_ob_s hv
      obtain ⟨C, T, N, hcC, w1, -⟩ := ev_ct_s ho
      exact fun H ls locs hJ hl hc hcm hsm => va_castS hx hb hown (hts _ (ev_gw_in w1 rfl)) (hK.1 a _ hcC).2 (va_recv hK (mh_one hJ.2.1 hfv) hcC (q0 := 0) rfl) hd (go h14 hJ hl hc hcm hsm)
  case ireturn =>
    have hlen : len = 1 := eq_of_beq hln
    subst hlen
    cases rt with
    | none => exact h.elim
    | some ty =>
      obtain ⟨v, r, rfl, hft, rfl, h11⟩ := ev_i_s h
      exact fun H ls locs hJ hl hc hcm hsm => hret (some (.int v)) f n H ls locs pc c sl .ireturn h11 hJ hcm hsm hd (Or.inl ⟨rfl, v, ty, rfl, rfl, (ev_fit_s hft).1⟩)
  case areturn =>
    have hlen : len = 1 := eq_of_beq hln
    subst hlen
    cases rt with
    | none => exact h.elim
    | some ty =>
      obtain ⟨v, r, rfl, hft, rfl, h11⟩ := ev_q_s h
      refine fun H ls locs hJ hl hc hcm hsm => hret (some (va_rf v)) f n H ls locs pc c sl .areturn h11 hJ hcm hsm hd (Or.inr (Or.inl ⟨rfl, v, ty, rfl, rfl, ?_⟩))
      cases ty <;> first | exact Or.inl ⟨_, rfl⟩ | exact Or.inr ⟨_, rfl⟩ | (cases v <;> exact hft.elim)
  case return_ =>
    have hlen : len = 1 := eq_of_beq hln
    subst hlen
    cases rt with
    | some _ => exact h.elim
    | none =>
      obtain ⟨rfl, h⟩ := h
      exact fun H ls locs hJ hl hc hcm hsm => hret none f n H ls locs pc c sl .return_ h hJ hcm hsm hd (Or.inr (Or.inr ⟨rfl, rfl, rfl⟩))
  all_goals exact h.elim
end ESS
