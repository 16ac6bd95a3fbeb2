/-! THE LAW'S CASES -/
section CASE
variable {l : Launch} {D : va_G} {cy : Nat → ClassId} {zF z0 a0 K c mb oo : Nat} {ext : Nat → Nat → List Value → ev_H → Nat → ev_P → Prop} {b Lx : Nat} {xs : Nat → Int32} {Ret : ev_P} {sh : fl_S} {V : fl_V} {n j cc sl : Nat}
set_option maxRecDepth 100000 in
set_option maxHeartbeats 4000000 in
theorem lc_service_0 (hext : ev_HX l D cy zF ext) (hst : l.stackTraces = false) (hA : AlOK cy z0 a0 ext) (e1 : mb = c + 374) (e2 : oo = c + 420) (e3 : K = c + 421) (hI : LI K a0 c mb oo sh V n j) (hj : j < 512) (hx : 6 * j + 6 ≤ Lx) (hLx : Lx ≤ 3072) (hc : cc + 4 ≤ 601024) (hsl : sl + 740 ≤ 7293034) (hN : ∀ T' sh' V' n' c' sl', TS T' → LI K a0 c mb oo sh' V' n' (j + 1) → c' ≤ cc + 4 → sl' ≤ sl + 740 → lQ l D cy zF z0 ext b Lx xs Ret 1053 ([(0, .ref b), (1, .ref (z0 + c)), (2, .ref (z0 + mb)), (3, .ref (z0 + oo)), (4, .int (nI (6 * j)))] ++ T') [] sh' V' n' c' sl') : lQ l D cy zF z0 ext b Lx xs Ret 112 ([(0, .ref b), (1, .ref (z0 + c)), (2, .ref (z0 + mb)), (3, .ref (z0 + oo)), (4, .int (nI (6 * j)))]) [] sh V n cc sl := by
  obtain ⟨E, R, S, HH, g, hL, hm, hM, ho, hJ⟩ := hI
  obtain ⟨m1, m2⟩ := id hm
  have hcl := hL.1
  unfold isCL at hcl
  have hKn := hL.Kn
  have hq1 : vp_in (nI (6 * j) + 1) Lx := by rw [show (nI (6 * j) + 1 : Int32) = nI (6 * j + 1) from by rw [show (1 : Int32) = nI 1 from rfl, nI_add]]; exact vp_in_nI (by omega) (by omega)
  have hq2 : vp_in (nI (6 * j) + 2) Lx := by rw [show (nI (6 * j) + 2 : Int32) = nI (6 * j + 2) from by rw [show (2 : Int32) = nI 2 from rfl, nI_add]]; exact vp_in_nI (by omega) (by omega)
  have hq3 : vp_in (nI (6 * j) + 3) Lx := by rw [show (nI (6 * j) + 3 : Int32) = nI (6 * j + 3) from by rw [show (3 : Int32) = nI 3 from rfl, nI_add]]; exact vp_in_nI (by omega) (by omega)
  have hq4 : vp_in (nI (6 * j) + 4) Lx := by rw [show (nI (6 * j) + 4 : Int32) = nI (6 * j + 4) from by rw [show (4 : Int32) = nI 4 from rfl, nI_add]]; exact vp_in_nI (by omega) (by omega)
  have hq5 : vp_in (nI (6 * j) + 5) Lx := by rw [show (nI (6 * j) + 5 : Int32) = nI (6 * j + 5) from by rw [show (5 : Int32) = nI 5 from rfl, nI_add]]; exact vp_in_nI (by omega) (by omega)
  obtain ⟨k, x, S', HH', hkm, hJ', hsame, hC, hMP⟩ := tie_service (K := K) (c := c) (mb := mb) (S := S) hext hst hJ hj (u := (xs (nI (6 * j) + 1).toNatClampNeg)) (s := (xs (nI (6 * j) + 2).toNatClampNeg)) (m := (xs (nI (6 * j) + 3).toNatClampNeg)) (p := (xs (nI (6 * j) + 4).toNatClampNeg)) (q := (xs (nI (6 * j) + 5).toNatClampNeg))
  refine fs_aload_n (pc2 := 113) (kl_at_1 rfl) rfl rfl rfl ?_
  refine fs_aload_n (pc2 := 114) (kl_at_1 rfl) rfl rfl rfl ?_
  refine fs_iload (pc2 := 116) (kl_at_1 rfl) rfl rfl rfl ?_
  refine fs_iconst (pc2 := 117) (kl_at_1 rfl) rfl rfl ?_
  refine fs_iadd (pc2 := 118) (kl_at_1 rfl) rfl rfl ?_
  refine lw_scr (pc2 := 119) (kl_at_1 rfl) rfl hq1 ?_
  refine fs_aload_n (pc2 := 120) (kl_at_1 rfl) rfl rfl rfl ?_
  refine fs_iload (pc2 := 122) (kl_at_1 rfl) rfl rfl rfl ?_
  refine fs_iconst (pc2 := 123) (kl_at_1 rfl) rfl rfl ?_
  refine fs_iadd (pc2 := 124) (kl_at_1 rfl) rfl rfl ?_
  refine lw_scr (pc2 := 125) (kl_at_1 rfl) rfl hq2 ?_
  refine fs_aload_n (pc2 := 126) (kl_at_1 rfl) rfl rfl rfl ?_
  refine fs_iload (pc2 := 128) (kl_at_1 rfl) rfl rfl rfl ?_
  refine fs_iconst (pc2 := 129) (kl_at_1 rfl) rfl rfl ?_
  refine fs_iadd (pc2 := 130) (kl_at_1 rfl) rfl rfl ?_
  refine lw_scr (pc2 := 131) (kl_at_1 rfl) rfl hq3 ?_
  refine fs_aload_n (pc2 := 132) (kl_at_1 rfl) rfl rfl rfl ?_
  refine fs_iload (pc2 := 134) (kl_at_1 rfl) rfl rfl rfl ?_
  refine fs_iconst (pc2 := 135) (kl_at_1 rfl) rfl rfl ?_
  refine fs_iadd (pc2 := 136) (kl_at_1 rfl) rfl rfl ?_
  refine lw_scr (pc2 := 137) (kl_at_1 rfl) rfl hq4 ?_
  refine fs_aload_n (pc2 := 138) (kl_at_1 rfl) rfl rfl rfl ?_
  refine fs_iload (pc2 := 140) (kl_at_1 rfl) rfl rfl rfl ?_
  refine fs_iconst (pc2 := 141) (kl_at_1 rfl) rfl rfl ?_
  refine fs_iadd (pc2 := 142) (kl_at_1 rfl) rfl rfl ?_
  refine lw_scr (pc2 := 143) (kl_at_1 rfl) rfl hq5 ?_
  refine lw_hlp (dc := 4) (ds := 740) (pc2 := 146) (kl_at_1 rfl) rfl kw_L_service (h_service hcl hkm (fun v sh' V' n' h => h.1) (hC sh V n E R hL)) rfl rfl (Nat.le_of_ble_eq_true rfl) rfl rfl hc hsl (fun v9 sh9 V9 n9 hp9 => ?_)
  obtain ⟨ea9, hp9⟩ := hp9
  cases ea9
  obtain ⟨E9, R9, g9, hL9, hm9, hM9, ho9⟩ := lw_aftV (a := none) e1 e2 e3 hL hm hM ho hsame hp9
  obtain ⟨m3, m4⟩ := id hm9
  refine fs_istore (pc2 := 148) (kl_at_1 rfl) rfl rfl (Nat.le_of_ble_eq_true rfl) ?_
  refine fs_aload_n (pc2 := 149) (kl_at_1 rfl) rfl rfl rfl ?_
  refine fs_aload_n (pc2 := 150) (kl_at_1 rfl) rfl rfl rfl ?_
  refine fs_iload (pc2 := 152) (kl_at_1 rfl) rfl rfl rfl ?_
  refine fs_iconst (pc2 := 153) (kl_at_1 rfl) rfl rfl ?_
  refine fs_iadd (pc2 := 154) (kl_at_1 rfl) rfl rfl ?_
  refine lw_scr (pc2 := 155) (kl_at_1 rfl) rfl hq1 ?_
  refine fs_aload_n (pc2 := 156) (kl_at_1 rfl) rfl rfl rfl ?_
  refine fs_iload (pc2 := 158) (kl_at_1 rfl) rfl rfl rfl ?_
  refine fs_iconst (pc2 := 159) (kl_at_1 rfl) rfl rfl ?_
  refine fs_iadd (pc2 := 160) (kl_at_1 rfl) rfl rfl ?_
  refine lw_scr (pc2 := 161) (kl_at_1 rfl) rfl hq2 ?_
  refine fs_aload_n (pc2 := 162) (kl_at_1 rfl) rfl rfl rfl ?_
  refine fs_iload (pc2 := 164) (kl_at_1 rfl) rfl rfl rfl ?_
  refine fs_iconst (pc2 := 165) (kl_at_1 rfl) rfl rfl ?_
  refine fs_iadd (pc2 := 166) (kl_at_1 rfl) rfl rfl ?_
  refine lw_scr (pc2 := 167) (kl_at_1 rfl) rfl hq3 ?_
  refine fs_aload_n (pc2 := 168) (kl_at_1 rfl) rfl rfl rfl ?_
  refine fs_iload (pc2 := 170) (kl_at_1 rfl) rfl rfl rfl ?_
  refine fs_iconst (pc2 := 171) (kl_at_1 rfl) rfl rfl ?_
  refine fs_iadd (pc2 := 172) (kl_at_1 rfl) rfl rfl ?_
  refine lw_scr (pc2 := 173) (kl_at_1 rfl) rfl hq4 ?_
  refine fs_aload_n (pc2 := 174) (kl_at_1 rfl) rfl rfl rfl ?_
  refine fs_iload (pc2 := 176) (kl_at_1 rfl) rfl rfl rfl ?_
  refine fs_iconst (pc2 := 177) (kl_at_1 rfl) rfl rfl ?_
  refine fs_iadd (pc2 := 178) (kl_at_1 rfl) rfl rfl ?_
  refine lw_scr (pc2 := 179) (kl_at_1 rfl) rfl hq5 ?_
  refine lw_callv (dc := 0) (ds := 0) (pc2 := 182) (kl_at_1 rfl) rfl rfl rfl ⟨rfl, rfl⟩ (Nat.le_of_ble_eq_true rfl) rfl rfl (by omega) (by omega) (fs_rcv rfl m3) (hMP _ _ _ hm9 hM9) (fun v8 sh8 V8 n8 hp8 => ?_)
  obtain ⟨ea8, eb8, ec8, hM8, hth, hO8⟩ := hp8
  rw [mk_ifV] at ea8
  cases ea8
  obtain rfl := eb8.symm
  obtain rfl := ec8.symm
  have hF := lw_fin e1 e2 e3 hL9 hm9 hM8 hO8 ho9 hJ'
  refine fs_aload_n (pc2 := 183) (kl_at_1 rfl) rfl rfl rfl ?_
  refine lw_callv (dc := 0) (ds := 0) (pc2 := 186) (kl_at_1 rfl) rfl rfl rfl ⟨rfl, rfl⟩ (Nat.le_of_ble_eq_true rfl) rfl rfl (by omega) (by omega) (fs_rcv rfl m3) (m_thrown hm9) (fun v9 sh9 V9 n9 hp9 => ?_)
  obtain ⟨ea9, eb9, ec9, ed9⟩ := hp9
  cases ea9
  obtain rfl := eb9.symm
  obtain rfl := ec9.symm
  obtain rfl := ed9.symm
  rw [hth]
  refine fs_iload (pc2 := 188) (kl_at_1 rfl) rfl rfl rfl ?_
  refine fs_icmp_eq (pc2 := 191) (kl_at_1 rfl) rfl rfl (fun h188 => ?_) (fun h188 => absurd rfl h188)
  refine fs_goto (kl_at_1 rfl) rfl ?_
  first | exact hN [(5, .int _)] _ _ _ _ _ (Or.inr (Or.inl ⟨_, rfl⟩)) hF (by omega) (by omega) | exact hN [(5, .int _), (6, .int _)] _ _ _ _ _ (Or.inr (Or.inr ⟨_, _, rfl⟩)) hF (by omega) (by omega) | exact hN [] _ _ _ _ _ (Or.inl rfl) hF (by omega) (by omega)
set_option maxRecDepth 100000 in
set_option maxHeartbeats 4000000 in
theorem lc_service_1 {u5 : Int32} (hext : ev_HX l D cy zF ext) (hst : l.stackTraces = false) (hA : AlOK cy z0 a0 ext) (e1 : mb = c + 374) (e2 : oo = c + 420) (e3 : K = c + 421) (hI : LI K a0 c mb oo sh V n j) (hj : j < 512) (hx : 6 * j + 6 ≤ Lx) (hLx : Lx ≤ 3072) (hc : cc + 4 ≤ 601024) (hsl : sl + 740 ≤ 7293034) (hN : ∀ T' sh' V' n' c' sl', TS T' → LI K a0 c mb oo sh' V' n' (j + 1) → c' ≤ cc + 4 → sl' ≤ sl + 740 → lQ l D cy zF z0 ext b Lx xs Ret 1053 ([(0, .ref b), (1, .ref (z0 + c)), (2, .ref (z0 + mb)), (3, .ref (z0 + oo)), (4, .int (nI (6 * j)))] ++ T') [] sh' V' n' c' sl') : lQ l D cy zF z0 ext b Lx xs Ret 112 ([(0, .ref b), (1, .ref (z0 + c)), (2, .ref (z0 + mb)), (3, .ref (z0 + oo)), (4, .int (nI (6 * j))), (5, .int u5)]) [] sh V n cc sl := by
  obtain ⟨E, R, S, HH, g, hL, hm, hM, ho, hJ⟩ := hI
  obtain ⟨m1, m2⟩ := id hm
  have hcl := hL.1
  unfold isCL at hcl
  have hKn := hL.Kn
  have hq1 : vp_in (nI (6 * j) + 1) Lx := by rw [show (nI (6 * j) + 1 : Int32) = nI (6 * j + 1) from by rw [show (1 : Int32) = nI 1 from rfl, nI_add]]; exact vp_in_nI (by omega) (by omega)
  have hq2 : vp_in (nI (6 * j) + 2) Lx := by rw [show (nI (6 * j) + 2 : Int32) = nI (6 * j + 2) from by rw [show (2 : Int32) = nI 2 from rfl, nI_add]]; exact vp_in_nI (by omega) (by omega)
  have hq3 : vp_in (nI (6 * j) + 3) Lx := by rw [show (nI (6 * j) + 3 : Int32) = nI (6 * j + 3) from by rw [show (3 : Int32) = nI 3 from rfl, nI_add]]; exact vp_in_nI (by omega) (by omega)
  have hq4 : vp_in (nI (6 * j) + 4) Lx := by rw [show (nI (6 * j) + 4 : Int32) = nI (6 * j + 4) from by rw [show (4 : Int32) = nI 4 from rfl, nI_add]]; exact vp_in_nI (by omega) (by omega)
  have hq5 : vp_in (nI (6 * j) + 5) Lx := by rw [show (nI (6 * j) + 5 : Int32) = nI (6 * j + 5) from by rw [show (5 : Int32) = nI 5 from rfl, nI_add]]; exact vp_in_nI (by omega) (by omega)
  obtain ⟨k, x, S', HH', hkm, hJ', hsame, hC, hMP⟩ := tie_service (K := K) (c := c) (mb := mb) (S := S) hext hst hJ hj (u := (xs (nI (6 * j) + 1).toNatClampNeg)) (s := (xs (nI (6 * j) + 2).toNatClampNeg)) (m := (xs (nI (6 * j) + 3).toNatClampNeg)) (p := (xs (nI (6 * j) + 4).toNatClampNeg)) (q := (xs (nI (6 * j) + 5).toNatClampNeg))
  refine fs_aload_n (pc2 := 113) (kl_at_1 rfl) rfl rfl rfl ?_
  refine fs_aload_n (pc2 := 114) (kl_at_1 rfl) rfl rfl rfl ?_
  refine fs_iload (pc2 := 116) (kl_at_1 rfl) rfl rfl rfl ?_
  refine fs_iconst (pc2 := 117) (kl_at_1 rfl) rfl rfl ?_
  refine fs_iadd (pc2 := 118) (kl_at_1 rfl) rfl rfl ?_
  refine lw_scr (pc2 := 119) (kl_at_1 rfl) rfl hq1 ?_
  refine fs_aload_n (pc2 := 120) (kl_at_1 rfl) rfl rfl rfl ?_
  refine fs_iload (pc2 := 122) (kl_at_1 rfl) rfl rfl rfl ?_
  refine fs_iconst (pc2 := 123) (kl_at_1 rfl) rfl rfl ?_
  refine fs_iadd (pc2 := 124) (kl_at_1 rfl) rfl rfl ?_
  refine lw_scr (pc2 := 125) (kl_at_1 rfl) rfl hq2 ?_
  refine fs_aload_n (pc2 := 126) (kl_at_1 rfl) rfl rfl rfl ?_
  refine fs_iload (pc2 := 128) (kl_at_1 rfl) rfl rfl rfl ?_
  refine fs_iconst (pc2 := 129) (kl_at_1 rfl) rfl rfl ?_
  refine fs_iadd (pc2 := 130) (kl_at_1 rfl) rfl rfl ?_
  refine lw_scr (pc2 := 131) (kl_at_1 rfl) rfl hq3 ?_
  refine fs_aload_n (pc2 := 132) (kl_at_1 rfl) rfl rfl rfl ?_
  refine fs_iload (pc2 := 134) (kl_at_1 rfl) rfl rfl rfl ?_
  refine fs_iconst (pc2 := 135) (kl_at_1 rfl) rfl rfl ?_
  refine fs_iadd (pc2 := 136) (kl_at_1 rfl) rfl rfl ?_
  refine lw_scr (pc2 := 137) (kl_at_1 rfl) rfl hq4 ?_
  refine fs_aload_n (pc2 := 138) (kl_at_1 rfl) rfl rfl rfl ?_
  refine fs_iload (pc2 := 140) (kl_at_1 rfl) rfl rfl rfl ?_
  refine fs_iconst (pc2 := 141) (kl_at_1 rfl) rfl rfl ?_
  refine fs_iadd (pc2 := 142) (kl_at_1 rfl) rfl rfl ?_
  refine lw_scr (pc2 := 143) (kl_at_1 rfl) rfl hq5 ?_
  refine lw_hlp (dc := 4) (ds := 740) (pc2 := 146) (kl_at_1 rfl) rfl kw_L_service (h_service hcl hkm (fun v sh' V' n' h => h.1) (hC sh V n E R hL)) rfl rfl (Nat.le_of_ble_eq_true rfl) rfl rfl hc hsl (fun v9 sh9 V9 n9 hp9 => ?_)
  obtain ⟨ea9, hp9⟩ := hp9
  cases ea9
  obtain ⟨E9, R9, g9, hL9, hm9, hM9, ho9⟩ := lw_aftV (a := none) e1 e2 e3 hL hm hM ho hsame hp9
  obtain ⟨m3, m4⟩ := id hm9
  refine fs_istore (pc2 := 148) (kl_at_1 rfl) rfl rfl (Nat.le_of_ble_eq_true rfl) ?_
  refine fs_aload_n (pc2 := 149) (kl_at_1 rfl) rfl rfl rfl ?_
  refine fs_aload_n (pc2 := 150) (kl_at_1 rfl) rfl rfl rfl ?_
  refine fs_iload (pc2 := 152) (kl_at_1 rfl) rfl rfl rfl ?_
  refine fs_iconst (pc2 := 153) (kl_at_1 rfl) rfl rfl ?_
  refine fs_iadd (pc2 := 154) (kl_at_1 rfl) rfl rfl ?_
  refine lw_scr (pc2 := 155) (kl_at_1 rfl) rfl hq1 ?_
  refine fs_aload_n (pc2 := 156) (kl_at_1 rfl) rfl rfl rfl ?_
  refine fs_iload (pc2 := 158) (kl_at_1 rfl) rfl rfl rfl ?_
  refine fs_iconst (pc2 := 159) (kl_at_1 rfl) rfl rfl ?_
  refine fs_iadd (pc2 := 160) (kl_at_1 rfl) rfl rfl ?_
  refine lw_scr (pc2 := 161) (kl_at_1 rfl) rfl hq2 ?_
  refine fs_aload_n (pc2 := 162) (kl_at_1 rfl) rfl rfl rfl ?_
  refine fs_iload (pc2 := 164) (kl_at_1 rfl) rfl rfl rfl ?_
  refine fs_iconst (pc2 := 165) (kl_at_1 rfl) rfl rfl ?_
  refine fs_iadd (pc2 := 166) (kl_at_1 rfl) rfl rfl ?_
  refine lw_scr (pc2 := 167) (kl_at_1 rfl) rfl hq3 ?_
  refine fs_aload_n (pc2 := 168) (kl_at_1 rfl) rfl rfl rfl ?_
  refine fs_iload (pc2 := 170) (kl_at_1 rfl) rfl rfl rfl ?_
  refine fs_iconst (pc2 := 171) (kl_at_1 rfl) rfl rfl ?_
  refine fs_iadd (pc2 := 172) (kl_at_1 rfl) rfl rfl ?_
  refine lw_scr (pc2 := 173) (kl_at_1 rfl) rfl hq4 ?_
  refine fs_aload_n (pc2 := 174) (kl_at_1 rfl) rfl rfl rfl ?_
  refine fs_iload (pc2 := 176) (kl_at_1 rfl) rfl rfl rfl ?_
  refine fs_iconst (pc2 := 177) (kl_at_1 rfl) rfl rfl ?_
  refine fs_iadd (pc2 := 178) (kl_at_1 rfl) rfl rfl ?_
  refine lw_scr (pc2 := 179) (kl_at_1 rfl) rfl hq5 ?_
  refine lw_callv (dc := 0) (ds := 0) (pc2 := 182) (kl_at_1 rfl) rfl rfl rfl ⟨rfl, rfl⟩ (Nat.le_of_ble_eq_true rfl) rfl rfl (by omega) (by omega) (fs_rcv rfl m3) (hMP _ _ _ hm9 hM9) (fun v8 sh8 V8 n8 hp8 => ?_)
  obtain ⟨ea8, eb8, ec8, hM8, hth, hO8⟩ := hp8
  rw [mk_ifV] at ea8
  cases ea8
  obtain rfl := eb8.symm
  obtain rfl := ec8.symm
  have hF := lw_fin e1 e2 e3 hL9 hm9 hM8 hO8 ho9 hJ'
  refine fs_aload_n (pc2 := 183) (kl_at_1 rfl) rfl rfl rfl ?_
  refine lw_callv (dc := 0) (ds := 0) (pc2 := 186) (kl_at_1 rfl) rfl rfl rfl ⟨rfl, rfl⟩ (Nat.le_of_ble_eq_true rfl) rfl rfl (by omega) (by omega) (fs_rcv rfl m3) (m_thrown hm9) (fun v9 sh9 V9 n9 hp9 => ?_)
  obtain ⟨ea9, eb9, ec9, ed9⟩ := hp9
  cases ea9
  obtain rfl := eb9.symm
  obtain rfl := ec9.symm
  obtain rfl := ed9.symm
  rw [hth]
  refine fs_iload (pc2 := 188) (kl_at_1 rfl) rfl rfl rfl ?_
  refine fs_icmp_eq (pc2 := 191) (kl_at_1 rfl) rfl rfl (fun h188 => ?_) (fun h188 => absurd rfl h188)
  refine fs_goto (kl_at_1 rfl) rfl ?_
  first | exact hN [(5, .int _)] _ _ _ _ _ (Or.inr (Or.inl ⟨_, rfl⟩)) hF (by omega) (by omega) | exact hN [(5, .int _), (6, .int _)] _ _ _ _ _ (Or.inr (Or.inr ⟨_, _, rfl⟩)) hF (by omega) (by omega) | exact hN [] _ _ _ _ _ (Or.inl rfl) hF (by omega) (by omega)
set_option maxRecDepth 100000 in
set_option maxHeartbeats 4000000 in
theorem lc_service_2 {u5 u6 : Int32} (hext : ev_HX l D cy zF ext) (hst : l.stackTraces = false) (hA : AlOK cy z0 a0 ext) (e1 : mb = c + 374) (e2 : oo = c + 420) (e3 : K = c + 421) (hI : LI K a0 c mb oo sh V n j) (hj : j < 512) (hx : 6 * j + 6 ≤ Lx) (hLx : Lx ≤ 3072) (hc : cc + 4 ≤ 601024) (hsl : sl + 740 ≤ 7293034) (hN : ∀ T' sh' V' n' c' sl', TS T' → LI K a0 c mb oo sh' V' n' (j + 1) → c' ≤ cc + 4 → sl' ≤ sl + 740 → lQ l D cy zF z0 ext b Lx xs Ret 1053 ([(0, .ref b), (1, .ref (z0 + c)), (2, .ref (z0 + mb)), (3, .ref (z0 + oo)), (4, .int (nI (6 * j)))] ++ T') [] sh' V' n' c' sl') : lQ l D cy zF z0 ext b Lx xs Ret 112 ([(0, .ref b), (1, .ref (z0 + c)), (2, .ref (z0 + mb)), (3, .ref (z0 + oo)), (4, .int (nI (6 * j))), (5, .int u5), (6, .int u6)]) [] sh V n cc sl := by
  obtain ⟨E, R, S, HH, g, hL, hm, hM, ho, hJ⟩ := hI
  obtain ⟨m1, m2⟩ := id hm
  have hcl := hL.1
  unfold isCL at hcl
  have hKn := hL.Kn
  have hq1 : vp_in (nI (6 * j) + 1) Lx := by rw [show (nI (6 * j) + 1 : Int32) = nI (6 * j + 1) from by rw [show (1 : Int32) = nI 1 from rfl, nI_add]]; exact vp_in_nI (by omega) (by omega)
  have hq2 : vp_in (nI (6 * j) + 2) Lx := by rw [show (nI (6 * j) + 2 : Int32) = nI (6 * j + 2) from by rw [show (2 : Int32) = nI 2 from rfl, nI_add]]; exact vp_in_nI (by omega) (by omega)
  have hq3 : vp_in (nI (6 * j) + 3) Lx := by rw [show (nI (6 * j) + 3 : Int32) = nI (6 * j + 3) from by rw [show (3 : Int32) = nI 3 from rfl, nI_add]]; exact vp_in_nI (by omega) (by omega)
  have hq4 : vp_in (nI (6 * j) + 4) Lx := by rw [show (nI (6 * j) + 4 : Int32) = nI (6 * j + 4) from by rw [show (4 : Int32) = nI 4 from rfl, nI_add]]; exact vp_in_nI (by omega) (by omega)
  have hq5 : vp_in (nI (6 * j) + 5) Lx := by rw [show (nI (6 * j) + 5 : Int32) = nI (6 * j + 5) from by rw [show (5 : Int32) = nI 5 from rfl, nI_add]]; exact vp_in_nI (by omega) (by omega)
  obtain ⟨k, x, S', HH', hkm, hJ', hsame, hC, hMP⟩ := tie_service (K := K) (c := c) (mb := mb) (S := S) hext hst hJ hj (u := (xs (nI (6 * j) + 1).toNatClampNeg)) (s := (xs (nI (6 * j) + 2).toNatClampNeg)) (m := (xs (nI (6 * j) + 3).toNatClampNeg)) (p := (xs (nI (6 * j) + 4).toNatClampNeg)) (q := (xs (nI (6 * j) + 5).toNatClampNeg))
  refine fs_aload_n (pc2 := 113) (kl_at_1 rfl) rfl rfl rfl ?_
  refine fs_aload_n (pc2 := 114) (kl_at_1 rfl) rfl rfl rfl ?_
  refine fs_iload (pc2 := 116) (kl_at_1 rfl) rfl rfl rfl ?_
  refine fs_iconst (pc2 := 117) (kl_at_1 rfl) rfl rfl ?_
  refine fs_iadd (pc2 := 118) (kl_at_1 rfl) rfl rfl ?_
  refine lw_scr (pc2 := 119) (kl_at_1 rfl) rfl hq1 ?_
  refine fs_aload_n (pc2 := 120) (kl_at_1 rfl) rfl rfl rfl ?_
  refine fs_iload (pc2 := 122) (kl_at_1 rfl) rfl rfl rfl ?_
  refine fs_iconst (pc2 := 123) (kl_at_1 rfl) rfl rfl ?_
  refine fs_iadd (pc2 := 124) (kl_at_1 rfl) rfl rfl ?_
  refine lw_scr (pc2 := 125) (kl_at_1 rfl) rfl hq2 ?_
  refine fs_aload_n (pc2 := 126) (kl_at_1 rfl) rfl rfl rfl ?_
  refine fs_iload (pc2 := 128) (kl_at_1 rfl) rfl rfl rfl ?_
  refine fs_iconst (pc2 := 129) (kl_at_1 rfl) rfl rfl ?_
  refine fs_iadd (pc2 := 130) (kl_at_1 rfl) rfl rfl ?_
  refine lw_scr (pc2 := 131) (kl_at_1 rfl) rfl hq3 ?_
  refine fs_aload_n (pc2 := 132) (kl_at_1 rfl) rfl rfl rfl ?_
  refine fs_iload (pc2 := 134) (kl_at_1 rfl) rfl rfl rfl ?_
  refine fs_iconst (pc2 := 135) (kl_at_1 rfl) rfl rfl ?_
  refine fs_iadd (pc2 := 136) (kl_at_1 rfl) rfl rfl ?_
  refine lw_scr (pc2 := 137) (kl_at_1 rfl) rfl hq4 ?_
  refine fs_aload_n (pc2 := 138) (kl_at_1 rfl) rfl rfl rfl ?_
  refine fs_iload (pc2 := 140) (kl_at_1 rfl) rfl rfl rfl ?_
  refine fs_iconst (pc2 := 141) (kl_at_1 rfl) rfl rfl ?_
  refine fs_iadd (pc2 := 142) (kl_at_1 rfl) rfl rfl ?_
  refine lw_scr (pc2 := 143) (kl_at_1 rfl) rfl hq5 ?_
  refine lw_hlp (dc := 4) (ds := 740) (pc2 := 146) (kl_at_1 rfl) rfl kw_L_service (h_service hcl hkm (fun v sh' V' n' h => h.1) (hC sh V n E R hL)) rfl rfl (Nat.le_of_ble_eq_true rfl) rfl rfl hc hsl (fun v9 sh9 V9 n9 hp9 => ?_)
  obtain ⟨ea9, hp9⟩ := hp9
  cases ea9
  obtain ⟨E9, R9, g9, hL9, hm9, hM9, ho9⟩ := lw_aftV (a := none) e1 e2 e3 hL hm hM ho hsame hp9
  obtain ⟨m3, m4⟩ := id hm9
  refine fs_istore (pc2 := 148) (kl_at_1 rfl) rfl rfl (Nat.le_of_ble_eq_true rfl) ?_
  refine fs_aload_n (pc2 := 149) (kl_at_1 rfl) rfl rfl rfl ?_
  refine fs_aload_n (pc2 := 150) (kl_at_1 rfl) rfl rfl rfl ?_
  refine fs_iload (pc2 := 152) (kl_at_1 rfl) rfl rfl rfl ?_
  refine fs_iconst (pc2 := 153) (kl_at_1 rfl) rfl rfl ?_
  refine fs_iadd (pc2 := 154) (kl_at_1 rfl) rfl rfl ?_
  refine lw_scr (pc2 := 155) (kl_at_1 rfl) rfl hq1 ?_
  refine fs_aload_n (pc2 := 156) (kl_at_1 rfl) rfl rfl rfl ?_
  refine fs_iload (pc2 := 158) (kl_at_1 rfl) rfl rfl rfl ?_
  refine fs_iconst (pc2 := 159) (kl_at_1 rfl) rfl rfl ?_
  refine fs_iadd (pc2 := 160) (kl_at_1 rfl) rfl rfl ?_
  refine lw_scr (pc2 := 161) (kl_at_1 rfl) rfl hq2 ?_
  refine fs_aload_n (pc2 := 162) (kl_at_1 rfl) rfl rfl rfl ?_
  refine fs_iload (pc2 := 164) (kl_at_1 rfl) rfl rfl rfl ?_
  refine fs_iconst (pc2 := 165) (kl_at_1 rfl) rfl rfl ?_
  refine fs_iadd (pc2 := 166) (kl_at_1 rfl) rfl rfl ?_
  refine lw_scr (pc2 := 167) (kl_at_1 rfl) rfl hq3 ?_
  refine fs_aload_n (pc2 := 168) (kl_at_1 rfl) rfl rfl rfl ?_
  refine fs_iload (pc2 := 170) (kl_at_1 rfl) rfl rfl rfl ?_
  refine fs_iconst (pc2 := 171) (kl_at_1 rfl) rfl rfl ?_
  refine fs_iadd (pc2 := 172) (kl_at_1 rfl) rfl rfl ?_
  refine lw_scr (pc2 := 173) (kl_at_1 rfl) rfl hq4 ?_
  refine fs_aload_n (pc2 := 174) (kl_at_1 rfl) rfl rfl rfl ?_
  refine fs_iload (pc2 := 176) (kl_at_1 rfl) rfl rfl rfl ?_
  refine fs_iconst (pc2 := 177) (kl_at_1 rfl) rfl rfl ?_
  refine fs_iadd (pc2 := 178) (kl_at_1 rfl) rfl rfl ?_
  refine lw_scr (pc2 := 179) (kl_at_1 rfl) rfl hq5 ?_
  refine lw_callv (dc := 0) (ds := 0) (pc2 := 182) (kl_at_1 rfl) rfl rfl rfl ⟨rfl, rfl⟩ (Nat.le_of_ble_eq_true rfl) rfl rfl (by omega) (by omega) (fs_rcv rfl m3) (hMP _ _ _ hm9 hM9) (fun v8 sh8 V8 n8 hp8 => ?_)
  obtain ⟨ea8, eb8, ec8, hM8, hth, hO8⟩ := hp8
  rw [mk_ifV] at ea8
  cases ea8
  obtain rfl := eb8.symm
  obtain rfl := ec8.symm
  have hF := lw_fin e1 e2 e3 hL9 hm9 hM8 hO8 ho9 hJ'
  refine fs_aload_n (pc2 := 183) (kl_at_1 rfl) rfl rfl rfl ?_
  refine lw_callv (dc := 0) (ds := 0) (pc2 := 186) (kl_at_1 rfl) rfl rfl rfl ⟨rfl, rfl⟩ (Nat.le_of_ble_eq_true rfl) rfl rfl (by omega) (by omega) (fs_rcv rfl m3) (m_thrown hm9) (fun v9 sh9 V9 n9 hp9 => ?_)
  obtain ⟨ea9, eb9, ec9, ed9⟩ := hp9
  cases ea9
  obtain rfl := eb9.symm
  obtain rfl := ec9.symm
  obtain rfl := ed9.symm
  rw [hth]
  refine fs_iload (pc2 := 188) (kl_at_1 rfl) rfl rfl rfl ?_
  refine fs_icmp_eq (pc2 := 191) (kl_at_1 rfl) rfl rfl (fun h188 => ?_) (fun h188 => absurd rfl h188)
  refine fs_goto (kl_at_1 rfl) rfl ?_
  first | exact hN [(5, .int _)] _ _ _ _ _ (Or.inr (Or.inl ⟨_, rfl⟩)) hF (by omega) (by omega) | exact hN [(5, .int _), (6, .int _)] _ _ _ _ _ (Or.inr (Or.inr ⟨_, _, rfl⟩)) hF (by omega) (by omega) | exact hN [] _ _ _ _ _ (Or.inl rfl) hF (by omega) (by omega)
set_option maxRecDepth 100000 in
set_option maxHeartbeats 4000000 in
theorem lc_connect_0 (hext : ev_HX l D cy zF ext) (hst : l.stackTraces = false) (hA : AlOK cy z0 a0 ext) (e1 : mb = c + 374) (e2 : oo = c + 420) (e3 : K = c + 421) (hI : LI K a0 c mb oo sh V n j) (hj : j < 512) (hx : 6 * j + 6 ≤ Lx) (hLx : Lx ≤ 3072) (hc : cc + 4 ≤ 601024) (hsl : sl + 740 ≤ 7293034) (hN : ∀ T' sh' V' n' c' sl', TS T' → LI K a0 c mb oo sh' V' n' (j + 1) → c' ≤ cc + 4 → sl' ≤ sl + 740 → lQ l D cy zF z0 ext b Lx xs Ret 1053 ([(0, .ref b), (1, .ref (z0 + c)), (2, .ref (z0 + mb)), (3, .ref (z0 + oo)), (4, .int (nI (6 * j)))] ++ T') [] sh' V' n' c' sl') : lQ l D cy zF z0 ext b Lx xs Ret 196 ([(0, .ref b), (1, .ref (z0 + c)), (2, .ref (z0 + mb)), (3, .ref (z0 + oo)), (4, .int (nI (6 * j)))]) [] sh V n cc sl := by
  obtain ⟨E, R, S, HH, g, hL, hm, hM, ho, hJ⟩ := hI
  obtain ⟨m1, m2⟩ := id hm
  have hcl := hL.1
  unfold isCL at hcl
  have hKn := hL.Kn
  have hq1 : vp_in (nI (6 * j) + 1) Lx := by rw [show (nI (6 * j) + 1 : Int32) = nI (6 * j + 1) from by rw [show (1 : Int32) = nI 1 from rfl, nI_add]]; exact vp_in_nI (by omega) (by omega)
  have hq2 : vp_in (nI (6 * j) + 2) Lx := by rw [show (nI (6 * j) + 2 : Int32) = nI (6 * j + 2) from by rw [show (2 : Int32) = nI 2 from rfl, nI_add]]; exact vp_in_nI (by omega) (by omega)
  have hq3 : vp_in (nI (6 * j) + 3) Lx := by rw [show (nI (6 * j) + 3 : Int32) = nI (6 * j + 3) from by rw [show (3 : Int32) = nI 3 from rfl, nI_add]]; exact vp_in_nI (by omega) (by omega)
  have hq4 : vp_in (nI (6 * j) + 4) Lx := by rw [show (nI (6 * j) + 4 : Int32) = nI (6 * j + 4) from by rw [show (4 : Int32) = nI 4 from rfl, nI_add]]; exact vp_in_nI (by omega) (by omega)
  have hq5 : vp_in (nI (6 * j) + 5) Lx := by rw [show (nI (6 * j) + 5 : Int32) = nI (6 * j + 5) from by rw [show (5 : Int32) = nI 5 from rfl, nI_add]]; exact vp_in_nI (by omega) (by omega)
  obtain ⟨k, x, S', HH', hkm, hJ', hsame, hC, hMP⟩ := tie_connect (K := K) (c := c) (mb := mb) (S := S) hext hst hA hJ hj (u := (xs (nI (6 * j) + 1).toNatClampNeg)) (s := (xs (nI (6 * j) + 2).toNatClampNeg)) (m := (xs (nI (6 * j) + 3).toNatClampNeg)) (p := (xs (nI (6 * j) + 4).toNatClampNeg)) (q := (xs (nI (6 * j) + 5).toNatClampNeg))
  refine fs_aload_n (pc2 := 197) (kl_at_2 rfl) rfl rfl rfl ?_
  refine fs_aload_n (pc2 := 198) (kl_at_2 rfl) rfl rfl rfl ?_
  refine fs_iload (pc2 := 200) (kl_at_2 rfl) rfl rfl rfl ?_
  refine fs_iconst (pc2 := 201) (kl_at_2 rfl) rfl rfl ?_
  refine fs_iadd (pc2 := 202) (kl_at_2 rfl) rfl rfl ?_
  refine lw_scr (pc2 := 203) (kl_at_2 rfl) rfl hq1 ?_
  refine fs_aload_n (pc2 := 204) (kl_at_2 rfl) rfl rfl rfl ?_
  refine fs_iload (pc2 := 206) (kl_at_2 rfl) rfl rfl rfl ?_
  refine fs_iconst (pc2 := 207) (kl_at_2 rfl) rfl rfl ?_
  refine fs_iadd (pc2 := 208) (kl_at_2 rfl) rfl rfl ?_
  refine lw_scr (pc2 := 209) (kl_at_2 rfl) rfl hq2 ?_
  refine fs_aload_n (pc2 := 210) (kl_at_2 rfl) rfl rfl rfl ?_
  refine fs_iload (pc2 := 212) (kl_at_2 rfl) rfl rfl rfl ?_
  refine fs_iconst (pc2 := 213) (kl_at_2 rfl) rfl rfl ?_
  refine fs_iadd (pc2 := 214) (kl_at_2 rfl) rfl rfl ?_
  refine lw_scr (pc2 := 215) (kl_at_2 rfl) rfl hq3 ?_
  refine fs_aload_n (pc2 := 216) (kl_at_2 rfl) rfl rfl rfl ?_
  refine fs_iload (pc2 := 218) (kl_at_2 rfl) rfl rfl rfl ?_
  refine fs_iconst (pc2 := 219) (kl_at_2 rfl) rfl rfl ?_
  refine fs_iadd (pc2 := 220) (kl_at_2 rfl) rfl rfl ?_
  refine lw_scr (pc2 := 221) (kl_at_2 rfl) rfl hq4 ?_
  refine fs_aload_n (pc2 := 222) (kl_at_2 rfl) rfl rfl rfl ?_
  refine fs_iload (pc2 := 224) (kl_at_2 rfl) rfl rfl rfl ?_
  refine fs_iconst (pc2 := 225) (kl_at_2 rfl) rfl rfl ?_
  refine fs_iadd (pc2 := 226) (kl_at_2 rfl) rfl rfl ?_
  refine lw_scr (pc2 := 227) (kl_at_2 rfl) rfl hq5 ?_
  refine fs_aload_n (pc2 := 228) (kl_at_2 rfl) rfl rfl rfl ?_
  refine lw_hlp (dc := 4) (ds := 740) (pc2 := 231) (kl_at_2 rfl) rfl kw_L_connect (h_connect hcl hkm (fun v sh' V' n' h => ⟨h.1, by rw [h.2.2.2.2 oo (by omega) (by omega)]; exact ho⟩) (hC sh V n E R hL)) rfl rfl (Nat.le_of_ble_eq_true rfl) rfl rfl hc hsl (fun v9 sh9 V9 n9 hp9 => ?_)
  obtain ⟨ea9, hp9⟩ := hp9
  cases ea9
  obtain ⟨E9, R9, g9, hL9, hm9, hM9, ho9, hv9⟩ := lw_aft (a := mkI x) e1 e2 e3 hL hm hM ho hsame hp9
  obtain ⟨m3, m4⟩ := id hm9
  refine fs_istore (pc2 := 233) (kl_at_2 rfl) rfl rfl (Nat.le_of_ble_eq_true rfl) ?_
  refine fs_aload_n (pc2 := 234) (kl_at_2 rfl) rfl rfl rfl ?_
  refine fs_aload_n (pc2 := 235) (kl_at_2 rfl) rfl rfl rfl ?_
  refine fs_iload (pc2 := 237) (kl_at_2 rfl) rfl rfl rfl ?_
  refine fs_iconst (pc2 := 238) (kl_at_2 rfl) rfl rfl ?_
  refine fs_iadd (pc2 := 239) (kl_at_2 rfl) rfl rfl ?_
  refine lw_scr (pc2 := 240) (kl_at_2 rfl) rfl hq1 ?_
  refine fs_aload_n (pc2 := 241) (kl_at_2 rfl) rfl rfl rfl ?_
  refine fs_iload (pc2 := 243) (kl_at_2 rfl) rfl rfl rfl ?_
  refine fs_iconst (pc2 := 244) (kl_at_2 rfl) rfl rfl ?_
  refine fs_iadd (pc2 := 245) (kl_at_2 rfl) rfl rfl ?_
  refine lw_scr (pc2 := 246) (kl_at_2 rfl) rfl hq2 ?_
  refine fs_aload_n (pc2 := 247) (kl_at_2 rfl) rfl rfl rfl ?_
  refine fs_iload (pc2 := 249) (kl_at_2 rfl) rfl rfl rfl ?_
  refine fs_iconst (pc2 := 250) (kl_at_2 rfl) rfl rfl ?_
  refine fs_iadd (pc2 := 251) (kl_at_2 rfl) rfl rfl ?_
  refine lw_scr (pc2 := 252) (kl_at_2 rfl) rfl hq3 ?_
  refine fs_aload_n (pc2 := 253) (kl_at_2 rfl) rfl rfl rfl ?_
  refine fs_iload (pc2 := 255) (kl_at_2 rfl) rfl rfl rfl ?_
  refine fs_iconst (pc2 := 256) (kl_at_2 rfl) rfl rfl ?_
  refine fs_iadd (pc2 := 257) (kl_at_2 rfl) rfl rfl ?_
  refine lw_scr (pc2 := 258) (kl_at_2 rfl) rfl hq4 ?_
  refine fs_aload_n (pc2 := 259) (kl_at_2 rfl) rfl rfl rfl ?_
  refine fs_iload (pc2 := 261) (kl_at_2 rfl) rfl rfl rfl ?_
  refine fs_iconst (pc2 := 262) (kl_at_2 rfl) rfl rfl ?_
  refine fs_iadd (pc2 := 263) (kl_at_2 rfl) rfl rfl ?_
  refine lw_scr (pc2 := 264) (kl_at_2 rfl) rfl hq5 ?_
  refine lw_callv (dc := 0) (ds := 0) (pc2 := 267) (kl_at_2 rfl) rfl rfl rfl ⟨rfl, rfl⟩ (Nat.le_of_ble_eq_true rfl) rfl rfl (by omega) (by omega) (fs_rcv rfl m3) (hMP _ _ _ hm9 hM9) (fun v8 sh8 V8 n8 hp8 => ?_)
  obtain ⟨ea8, eb8, ec8, hM8, hth, hO8⟩ := hp8
  rw [mk_if] at ea8
  cases ea8
  obtain rfl := eb8.symm
  obtain rfl := ec8.symm
  have hF := lw_fin e1 e2 e3 hL9 hm9 hM8 hO8 ho9 hJ'
  refine fs_istore (pc2 := 269) (kl_at_2 rfl) rfl rfl (Nat.le_of_ble_eq_true rfl) ?_
  refine fs_aload_n (pc2 := 270) (kl_at_2 rfl) rfl rfl rfl ?_
  refine lw_callv (dc := 0) (ds := 0) (pc2 := 273) (kl_at_2 rfl) rfl rfl rfl ⟨rfl, rfl⟩ (Nat.le_of_ble_eq_true rfl) rfl rfl (by omega) (by omega) (fs_rcv rfl m3) (m_thrown hm9) (fun v9 sh9 V9 n9 hp9 => ?_)
  obtain ⟨ea9, eb9, ec9, ed9⟩ := hp9
  cases ea9
  obtain rfl := eb9.symm
  obtain rfl := ec9.symm
  obtain rfl := ed9.symm
  rw [hth]
  refine fs_iload (pc2 := 275) (kl_at_2 rfl) rfl rfl rfl ?_
  refine fs_icmp_eq (pc2 := 278) (kl_at_2 rfl) rfl rfl (fun h275 => ?_) (fun h275 => absurd rfl h275)
  refine fs_iload (pc2 := 282) (kl_at_2 rfl) rfl rfl rfl ?_
  refine fs_if_ne (pc2 := 285) (kl_at_2 rfl) rfl rfl (fun h282 => ?_) (fun h282 => ?_)
  · refine fs_goto (kl_at_2 rfl) rfl ?_
    first | exact hN [(5, .int _)] _ _ _ _ _ (Or.inr (Or.inl ⟨_, rfl⟩)) hF (by omega) (by omega) | exact hN [(5, .int _), (6, .int _)] _ _ _ _ _ (Or.inr (Or.inr ⟨_, _, rfl⟩)) hF (by omega) (by omega) | exact hN [] _ _ _ _ _ (Or.inl rfl) hF (by omega) (by omega)
  · have hk0 : k = 0 := c_eq (a := k) (b := 0) h282 rfl rfl (by omega) (by omega)
    rw [if_pos hk0]
    refine fs_aload_n (pc2 := 286) (kl_at_2 rfl) rfl rfl rfl ?_
    refine fs_iconst (pc2 := 287) (kl_at_2 rfl) rfl rfl ?_
    refine fs_lald (pc2 := 288) (kl_at_2 rfl) rfl rfl ho9 (vp_in_nI (n := 0) (by decide) (by decide)) ?_
    refine fs_iload (pc2 := 290) (kl_at_2 rfl) rfl rfl rfl ?_
    refine fs_i2l (pc2 := 291) (kl_at_2 rfl) rfl rfl ?_
    refine fs_lcmp (pc2 := 292) (kl_at_2 rfl) rfl rfl ?_
    rw [hv9 hk0]
    refine fs_if_eq (pc2 := 295) (kl_at_2 rfl) rfl rfl (fun h292 => ?_) (fun h292 => absurd (lg_cmp_self _) h292)
    refine fs_goto (kl_at_2 rfl) rfl ?_
    first | exact hN [(5, .int _)] _ _ _ _ _ (Or.inr (Or.inl ⟨_, rfl⟩)) hF (by omega) (by omega) | exact hN [(5, .int _), (6, .int _)] _ _ _ _ _ (Or.inr (Or.inr ⟨_, _, rfl⟩)) hF (by omega) (by omega) | exact hN [] _ _ _ _ _ (Or.inl rfl) hF (by omega) (by omega)
set_option maxRecDepth 100000 in
set_option maxHeartbeats 4000000 in
theorem lc_connect_1 {u5 : Int32} (hext : ev_HX l D cy zF ext) (hst : l.stackTraces = false) (hA : AlOK cy z0 a0 ext) (e1 : mb = c + 374) (e2 : oo = c + 420) (e3 : K = c + 421) (hI : LI K a0 c mb oo sh V n j) (hj : j < 512) (hx : 6 * j + 6 ≤ Lx) (hLx : Lx ≤ 3072) (hc : cc + 4 ≤ 601024) (hsl : sl + 740 ≤ 7293034) (hN : ∀ T' sh' V' n' c' sl', TS T' → LI K a0 c mb oo sh' V' n' (j + 1) → c' ≤ cc + 4 → sl' ≤ sl + 740 → lQ l D cy zF z0 ext b Lx xs Ret 1053 ([(0, .ref b), (1, .ref (z0 + c)), (2, .ref (z0 + mb)), (3, .ref (z0 + oo)), (4, .int (nI (6 * j)))] ++ T') [] sh' V' n' c' sl') : lQ l D cy zF z0 ext b Lx xs Ret 196 ([(0, .ref b), (1, .ref (z0 + c)), (2, .ref (z0 + mb)), (3, .ref (z0 + oo)), (4, .int (nI (6 * j))), (5, .int u5)]) [] sh V n cc sl := by
  obtain ⟨E, R, S, HH, g, hL, hm, hM, ho, hJ⟩ := hI
  obtain ⟨m1, m2⟩ := id hm
  have hcl := hL.1
  unfold isCL at hcl
  have hKn := hL.Kn
  have hq1 : vp_in (nI (6 * j) + 1) Lx := by rw [show (nI (6 * j) + 1 : Int32) = nI (6 * j + 1) from by rw [show (1 : Int32) = nI 1 from rfl, nI_add]]; exact vp_in_nI (by omega) (by omega)
  have hq2 : vp_in (nI (6 * j) + 2) Lx := by rw [show (nI (6 * j) + 2 : Int32) = nI (6 * j + 2) from by rw [show (2 : Int32) = nI 2 from rfl, nI_add]]; exact vp_in_nI (by omega) (by omega)
  have hq3 : vp_in (nI (6 * j) + 3) Lx := by rw [show (nI (6 * j) + 3 : Int32) = nI (6 * j + 3) from by rw [show (3 : Int32) = nI 3 from rfl, nI_add]]; exact vp_in_nI (by omega) (by omega)
  have hq4 : vp_in (nI (6 * j) + 4) Lx := by rw [show (nI (6 * j) + 4 : Int32) = nI (6 * j + 4) from by rw [show (4 : Int32) = nI 4 from rfl, nI_add]]; exact vp_in_nI (by omega) (by omega)
  have hq5 : vp_in (nI (6 * j) + 5) Lx := by rw [show (nI (6 * j) + 5 : Int32) = nI (6 * j + 5) from by rw [show (5 : Int32) = nI 5 from rfl, nI_add]]; exact vp_in_nI (by omega) (by omega)
  obtain ⟨k, x, S', HH', hkm, hJ', hsame, hC, hMP⟩ := tie_connect (K := K) (c := c) (mb := mb) (S := S) hext hst hA hJ hj (u := (xs (nI (6 * j) + 1).toNatClampNeg)) (s := (xs (nI (6 * j) + 2).toNatClampNeg)) (m := (xs (nI (6 * j) + 3).toNatClampNeg)) (p := (xs (nI (6 * j) + 4).toNatClampNeg)) (q := (xs (nI (6 * j) + 5).toNatClampNeg))
  refine fs_aload_n (pc2 := 197) (kl_at_2 rfl) rfl rfl rfl ?_
  refine fs_aload_n (pc2 := 198) (kl_at_2 rfl) rfl rfl rfl ?_
  refine fs_iload (pc2 := 200) (kl_at_2 rfl) rfl rfl rfl ?_
  refine fs_iconst (pc2 := 201) (kl_at_2 rfl) rfl rfl ?_
  refine fs_iadd (pc2 := 202) (kl_at_2 rfl) rfl rfl ?_
  refine lw_scr (pc2 := 203) (kl_at_2 rfl) rfl hq1 ?_
  refine fs_aload_n (pc2 := 204) (kl_at_2 rfl) rfl rfl rfl ?_
  refine fs_iload (pc2 := 206) (kl_at_2 rfl) rfl rfl rfl ?_
  refine fs_iconst (pc2 := 207) (kl_at_2 rfl) rfl rfl ?_
  refine fs_iadd (pc2 := 208) (kl_at_2 rfl) rfl rfl ?_
  refine lw_scr (pc2 := 209) (kl_at_2 rfl) rfl hq2 ?_
  refine fs_aload_n (pc2 := 210) (kl_at_2 rfl) rfl rfl rfl ?_
  refine fs_iload (pc2 := 212) (kl_at_2 rfl) rfl rfl rfl ?_
  refine fs_iconst (pc2 := 213) (kl_at_2 rfl) rfl rfl ?_
  refine fs_iadd (pc2 := 214) (kl_at_2 rfl) rfl rfl ?_
  refine lw_scr (pc2 := 215) (kl_at_2 rfl) rfl hq3 ?_
  refine fs_aload_n (pc2 := 216) (kl_at_2 rfl) rfl rfl rfl ?_
  refine fs_iload (pc2 := 218) (kl_at_2 rfl) rfl rfl rfl ?_
  refine fs_iconst (pc2 := 219) (kl_at_2 rfl) rfl rfl ?_
  refine fs_iadd (pc2 := 220) (kl_at_2 rfl) rfl rfl ?_
  refine lw_scr (pc2 := 221) (kl_at_2 rfl) rfl hq4 ?_
  refine fs_aload_n (pc2 := 222) (kl_at_2 rfl) rfl rfl rfl ?_
  refine fs_iload (pc2 := 224) (kl_at_2 rfl) rfl rfl rfl ?_
  refine fs_iconst (pc2 := 225) (kl_at_2 rfl) rfl rfl ?_
  refine fs_iadd (pc2 := 226) (kl_at_2 rfl) rfl rfl ?_
  refine lw_scr (pc2 := 227) (kl_at_2 rfl) rfl hq5 ?_
  refine fs_aload_n (pc2 := 228) (kl_at_2 rfl) rfl rfl rfl ?_
  refine lw_hlp (dc := 4) (ds := 740) (pc2 := 231) (kl_at_2 rfl) rfl kw_L_connect (h_connect hcl hkm (fun v sh' V' n' h => ⟨h.1, by rw [h.2.2.2.2 oo (by omega) (by omega)]; exact ho⟩) (hC sh V n E R hL)) rfl rfl (Nat.le_of_ble_eq_true rfl) rfl rfl hc hsl (fun v9 sh9 V9 n9 hp9 => ?_)
  obtain ⟨ea9, hp9⟩ := hp9
  cases ea9
  obtain ⟨E9, R9, g9, hL9, hm9, hM9, ho9, hv9⟩ := lw_aft (a := mkI x) e1 e2 e3 hL hm hM ho hsame hp9
  obtain ⟨m3, m4⟩ := id hm9
  refine fs_istore (pc2 := 233) (kl_at_2 rfl) rfl rfl (Nat.le_of_ble_eq_true rfl) ?_
  refine fs_aload_n (pc2 := 234) (kl_at_2 rfl) rfl rfl rfl ?_
  refine fs_aload_n (pc2 := 235) (kl_at_2 rfl) rfl rfl rfl ?_
  refine fs_iload (pc2 := 237) (kl_at_2 rfl) rfl rfl rfl ?_
  refine fs_iconst (pc2 := 238) (kl_at_2 rfl) rfl rfl ?_
  refine fs_iadd (pc2 := 239) (kl_at_2 rfl) rfl rfl ?_
  refine lw_scr (pc2 := 240) (kl_at_2 rfl) rfl hq1 ?_
  refine fs_aload_n (pc2 := 241) (kl_at_2 rfl) rfl rfl rfl ?_
  refine fs_iload (pc2 := 243) (kl_at_2 rfl) rfl rfl rfl ?_
  refine fs_iconst (pc2 := 244) (kl_at_2 rfl) rfl rfl ?_
  refine fs_iadd (pc2 := 245) (kl_at_2 rfl) rfl rfl ?_
  refine lw_scr (pc2 := 246) (kl_at_2 rfl) rfl hq2 ?_
  refine fs_aload_n (pc2 := 247) (kl_at_2 rfl) rfl rfl rfl ?_
  refine fs_iload (pc2 := 249) (kl_at_2 rfl) rfl rfl rfl ?_
  refine fs_iconst (pc2 := 250) (kl_at_2 rfl) rfl rfl ?_
  refine fs_iadd (pc2 := 251) (kl_at_2 rfl) rfl rfl ?_
  refine lw_scr (pc2 := 252) (kl_at_2 rfl) rfl hq3 ?_
  refine fs_aload_n (pc2 := 253) (kl_at_2 rfl) rfl rfl rfl ?_
  refine fs_iload (pc2 := 255) (kl_at_2 rfl) rfl rfl rfl ?_
  refine fs_iconst (pc2 := 256) (kl_at_2 rfl) rfl rfl ?_
  refine fs_iadd (pc2 := 257) (kl_at_2 rfl) rfl rfl ?_
  refine lw_scr (pc2 := 258) (kl_at_2 rfl) rfl hq4 ?_
  refine fs_aload_n (pc2 := 259) (kl_at_2 rfl) rfl rfl rfl ?_
  refine fs_iload (pc2 := 261) (kl_at_2 rfl) rfl rfl rfl ?_
  refine fs_iconst (pc2 := 262) (kl_at_2 rfl) rfl rfl ?_
  refine fs_iadd (pc2 := 263) (kl_at_2 rfl) rfl rfl ?_
  refine lw_scr (pc2 := 264) (kl_at_2 rfl) rfl hq5 ?_
  refine lw_callv (dc := 0) (ds := 0) (pc2 := 267) (kl_at_2 rfl) rfl rfl rfl ⟨rfl, rfl⟩ (Nat.le_of_ble_eq_true rfl) rfl rfl (by omega) (by omega) (fs_rcv rfl m3) (hMP _ _ _ hm9 hM9) (fun v8 sh8 V8 n8 hp8 => ?_)
  obtain ⟨ea8, eb8, ec8, hM8, hth, hO8⟩ := hp8
  rw [mk_if] at ea8
  cases ea8
  obtain rfl := eb8.symm
  obtain rfl := ec8.symm
  have hF := lw_fin e1 e2 e3 hL9 hm9 hM8 hO8 ho9 hJ'
  refine fs_istore (pc2 := 269) (kl_at_2 rfl) rfl rfl (Nat.le_of_ble_eq_true rfl) ?_
  refine fs_aload_n (pc2 := 270) (kl_at_2 rfl) rfl rfl rfl ?_
  refine lw_callv (dc := 0) (ds := 0) (pc2 := 273) (kl_at_2 rfl) rfl rfl rfl ⟨rfl, rfl⟩ (Nat.le_of_ble_eq_true rfl) rfl rfl (by omega) (by omega) (fs_rcv rfl m3) (m_thrown hm9) (fun v9 sh9 V9 n9 hp9 => ?_)
  obtain ⟨ea9, eb9, ec9, ed9⟩ := hp9
  cases ea9
  obtain rfl := eb9.symm
  obtain rfl := ec9.symm
  obtain rfl := ed9.symm
  rw [hth]
  refine fs_iload (pc2 := 275) (kl_at_2 rfl) rfl rfl rfl ?_
  refine fs_icmp_eq (pc2 := 278) (kl_at_2 rfl) rfl rfl (fun h275 => ?_) (fun h275 => absurd rfl h275)
  refine fs_iload (pc2 := 282) (kl_at_2 rfl) rfl rfl rfl ?_
  refine fs_if_ne (pc2 := 285) (kl_at_2 rfl) rfl rfl (fun h282 => ?_) (fun h282 => ?_)
  · refine fs_goto (kl_at_2 rfl) rfl ?_
    first | exact hN [(5, .int _)] _ _ _ _ _ (Or.inr (Or.inl ⟨_, rfl⟩)) hF (by omega) (by omega) | exact hN [(5, .int _), (6, .int _)] _ _ _ _ _ (Or.inr (Or.inr ⟨_, _, rfl⟩)) hF (by omega) (by omega) | exact hN [] _ _ _ _ _ (Or.inl rfl) hF (by omega) (by omega)
  · have hk0 : k = 0 := c_eq (a := k) (b := 0) h282 rfl rfl (by omega) (by omega)
    rw [if_pos hk0]
    refine fs_aload_n (pc2 := 286) (kl_at_2 rfl) rfl rfl rfl ?_
    refine fs_iconst (pc2 := 287) (kl_at_2 rfl) rfl rfl ?_
    refine fs_lald (pc2 := 288) (kl_at_2 rfl) rfl rfl ho9 (vp_in_nI (n := 0) (by decide) (by decide)) ?_
    refine fs_iload (pc2 := 290) (kl_at_2 rfl) rfl rfl rfl ?_
    refine fs_i2l (pc2 := 291) (kl_at_2 rfl) rfl rfl ?_
    refine fs_lcmp (pc2 := 292) (kl_at_2 rfl) rfl rfl ?_
    rw [hv9 hk0]
    refine fs_if_eq (pc2 := 295) (kl_at_2 rfl) rfl rfl (fun h292 => ?_) (fun h292 => absurd (lg_cmp_self _) h292)
    refine fs_goto (kl_at_2 rfl) rfl ?_
    first | exact hN [(5, .int _)] _ _ _ _ _ (Or.inr (Or.inl ⟨_, rfl⟩)) hF (by omega) (by omega) | exact hN [(5, .int _), (6, .int _)] _ _ _ _ _ (Or.inr (Or.inr ⟨_, _, rfl⟩)) hF (by omega) (by omega) | exact hN [] _ _ _ _ _ (Or.inl rfl) hF (by omega) (by omega)
set_option maxRecDepth 100000 in
set_option maxHeartbeats 4000000 in
theorem lc_connect_2 {u5 u6 : Int32} (hext : ev_HX l D cy zF ext) (hst : l.stackTraces = false) (hA : AlOK cy z0 a0 ext) (e1 : mb = c + 374) (e2 : oo = c + 420) (e3 : K = c + 421) (hI : LI K a0 c mb oo sh V n j) (hj : j < 512) (hx : 6 * j + 6 ≤ Lx) (hLx : Lx ≤ 3072) (hc : cc + 4 ≤ 601024) (hsl : sl + 740 ≤ 7293034) (hN : ∀ T' sh' V' n' c' sl', TS T' → LI K a0 c mb oo sh' V' n' (j + 1) → c' ≤ cc + 4 → sl' ≤ sl + 740 → lQ l D cy zF z0 ext b Lx xs Ret 1053 ([(0, .ref b), (1, .ref (z0 + c)), (2, .ref (z0 + mb)), (3, .ref (z0 + oo)), (4, .int (nI (6 * j)))] ++ T') [] sh' V' n' c' sl') : lQ l D cy zF z0 ext b Lx xs Ret 196 ([(0, .ref b), (1, .ref (z0 + c)), (2, .ref (z0 + mb)), (3, .ref (z0 + oo)), (4, .int (nI (6 * j))), (5, .int u5), (6, .int u6)]) [] sh V n cc sl := by
  obtain ⟨E, R, S, HH, g, hL, hm, hM, ho, hJ⟩ := hI
  obtain ⟨m1, m2⟩ := id hm
  have hcl := hL.1
  unfold isCL at hcl
  have hKn := hL.Kn
  have hq1 : vp_in (nI (6 * j) + 1) Lx := by rw [show (nI (6 * j) + 1 : Int32) = nI (6 * j + 1) from by rw [show (1 : Int32) = nI 1 from rfl, nI_add]]; exact vp_in_nI (by omega) (by omega)
  have hq2 : vp_in (nI (6 * j) + 2) Lx := by rw [show (nI (6 * j) + 2 : Int32) = nI (6 * j + 2) from by rw [show (2 : Int32) = nI 2 from rfl, nI_add]]; exact vp_in_nI (by omega) (by omega)
  have hq3 : vp_in (nI (6 * j) + 3) Lx := by rw [show (nI (6 * j) + 3 : Int32) = nI (6 * j + 3) from by rw [show (3 : Int32) = nI 3 from rfl, nI_add]]; exact vp_in_nI (by omega) (by omega)
  have hq4 : vp_in (nI (6 * j) + 4) Lx := by rw [show (nI (6 * j) + 4 : Int32) = nI (6 * j + 4) from by rw [show (4 : Int32) = nI 4 from rfl, nI_add]]; exact vp_in_nI (by omega) (by omega)
  have hq5 : vp_in (nI (6 * j) + 5) Lx := by rw [show (nI (6 * j) + 5 : Int32) = nI (6 * j + 5) from by rw [show (5 : Int32) = nI 5 from rfl, nI_add]]; exact vp_in_nI (by omega) (by omega)
  obtain ⟨k, x, S', HH', hkm, hJ', hsame, hC, hMP⟩ := tie_connect (K := K) (c := c) (mb := mb) (S := S) hext hst hA hJ hj (u := (xs (nI (6 * j) + 1).toNatClampNeg)) (s := (xs (nI (6 * j) + 2).toNatClampNeg)) (m := (xs (nI (6 * j) + 3).toNatClampNeg)) (p := (xs (nI (6 * j) + 4).toNatClampNeg)) (q := (xs (nI (6 * j) + 5).toNatClampNeg))
  refine fs_aload_n (pc2 := 197) (kl_at_2 rfl) rfl rfl rfl ?_
  refine fs_aload_n (pc2 := 198) (kl_at_2 rfl) rfl rfl rfl ?_
  refine fs_iload (pc2 := 200) (kl_at_2 rfl) rfl rfl rfl ?_
  refine fs_iconst (pc2 := 201) (kl_at_2 rfl) rfl rfl ?_
  refine fs_iadd (pc2 := 202) (kl_at_2 rfl) rfl rfl ?_
  refine lw_scr (pc2 := 203) (kl_at_2 rfl) rfl hq1 ?_
  refine fs_aload_n (pc2 := 204) (kl_at_2 rfl) rfl rfl rfl ?_
  refine fs_iload (pc2 := 206) (kl_at_2 rfl) rfl rfl rfl ?_
  refine fs_iconst (pc2 := 207) (kl_at_2 rfl) rfl rfl ?_
  refine fs_iadd (pc2 := 208) (kl_at_2 rfl) rfl rfl ?_
  refine lw_scr (pc2 := 209) (kl_at_2 rfl) rfl hq2 ?_
  refine fs_aload_n (pc2 := 210) (kl_at_2 rfl) rfl rfl rfl ?_
  refine fs_iload (pc2 := 212) (kl_at_2 rfl) rfl rfl rfl ?_
  refine fs_iconst (pc2 := 213) (kl_at_2 rfl) rfl rfl ?_
  refine fs_iadd (pc2 := 214) (kl_at_2 rfl) rfl rfl ?_
  refine lw_scr (pc2 := 215) (kl_at_2 rfl) rfl hq3 ?_
  refine fs_aload_n (pc2 := 216) (kl_at_2 rfl) rfl rfl rfl ?_
  refine fs_iload (pc2 := 218) (kl_at_2 rfl) rfl rfl rfl ?_
  refine fs_iconst (pc2 := 219) (kl_at_2 rfl) rfl rfl ?_
  refine fs_iadd (pc2 := 220) (kl_at_2 rfl) rfl rfl ?_
  refine lw_scr (pc2 := 221) (kl_at_2 rfl) rfl hq4 ?_
  refine fs_aload_n (pc2 := 222) (kl_at_2 rfl) rfl rfl rfl ?_
  refine fs_iload (pc2 := 224) (kl_at_2 rfl) rfl rfl rfl ?_
  refine fs_iconst (pc2 := 225) (kl_at_2 rfl) rfl rfl ?_
  refine fs_iadd (pc2 := 226) (kl_at_2 rfl) rfl rfl ?_
  refine lw_scr (pc2 := 227) (kl_at_2 rfl) rfl hq5 ?_
  refine fs_aload_n (pc2 := 228) (kl_at_2 rfl) rfl rfl rfl ?_
  refine lw_hlp (dc := 4) (ds := 740) (pc2 := 231) (kl_at_2 rfl) rfl kw_L_connect (h_connect hcl hkm (fun v sh' V' n' h => ⟨h.1, by rw [h.2.2.2.2 oo (by omega) (by omega)]; exact ho⟩) (hC sh V n E R hL)) rfl rfl (Nat.le_of_ble_eq_true rfl) rfl rfl hc hsl (fun v9 sh9 V9 n9 hp9 => ?_)
  obtain ⟨ea9, hp9⟩ := hp9
  cases ea9
  obtain ⟨E9, R9, g9, hL9, hm9, hM9, ho9, hv9⟩ := lw_aft (a := mkI x) e1 e2 e3 hL hm hM ho hsame hp9
  obtain ⟨m3, m4⟩ := id hm9
  refine fs_istore (pc2 := 233) (kl_at_2 rfl) rfl rfl (Nat.le_of_ble_eq_true rfl) ?_
  refine fs_aload_n (pc2 := 234) (kl_at_2 rfl) rfl rfl rfl ?_
  refine fs_aload_n (pc2 := 235) (kl_at_2 rfl) rfl rfl rfl ?_
  refine fs_iload (pc2 := 237) (kl_at_2 rfl) rfl rfl rfl ?_
  refine fs_iconst (pc2 := 238) (kl_at_2 rfl) rfl rfl ?_
  refine fs_iadd (pc2 := 239) (kl_at_2 rfl) rfl rfl ?_
  refine lw_scr (pc2 := 240) (kl_at_2 rfl) rfl hq1 ?_
  refine fs_aload_n (pc2 := 241) (kl_at_2 rfl) rfl rfl rfl ?_
  refine fs_iload (pc2 := 243) (kl_at_2 rfl) rfl rfl rfl ?_
  refine fs_iconst (pc2 := 244) (kl_at_2 rfl) rfl rfl ?_
  refine fs_iadd (pc2 := 245) (kl_at_2 rfl) rfl rfl ?_
  refine lw_scr (pc2 := 246) (kl_at_2 rfl) rfl hq2 ?_
  refine fs_aload_n (pc2 := 247) (kl_at_2 rfl) rfl rfl rfl ?_
  refine fs_iload (pc2 := 249) (kl_at_2 rfl) rfl rfl rfl ?_
  refine fs_iconst (pc2 := 250) (kl_at_2 rfl) rfl rfl ?_
  refine fs_iadd (pc2 := 251) (kl_at_2 rfl) rfl rfl ?_
  refine lw_scr (pc2 := 252) (kl_at_2 rfl) rfl hq3 ?_
  refine fs_aload_n (pc2 := 253) (kl_at_2 rfl) rfl rfl rfl ?_
  refine fs_iload (pc2 := 255) (kl_at_2 rfl) rfl rfl rfl ?_
  refine fs_iconst (pc2 := 256) (kl_at_2 rfl) rfl rfl ?_
  refine fs_iadd (pc2 := 257) (kl_at_2 rfl) rfl rfl ?_
  refine lw_scr (pc2 := 258) (kl_at_2 rfl) rfl hq4 ?_
  refine fs_aload_n (pc2 := 259) (kl_at_2 rfl) rfl rfl rfl ?_
  refine fs_iload (pc2 := 261) (kl_at_2 rfl) rfl rfl rfl ?_
  refine fs_iconst (pc2 := 262) (kl_at_2 rfl) rfl rfl ?_
  refine fs_iadd (pc2 := 263) (kl_at_2 rfl) rfl rfl ?_
  refine lw_scr (pc2 := 264) (kl_at_2 rfl) rfl hq5 ?_
  refine lw_callv (dc := 0) (ds := 0) (pc2 := 267) (kl_at_2 rfl) rfl rfl rfl ⟨rfl, rfl⟩ (Nat.le_of_ble_eq_true rfl) rfl rfl (by omega) (by omega) (fs_rcv rfl m3) (hMP _ _ _ hm9 hM9) (fun v8 sh8 V8 n8 hp8 => ?_)
  obtain ⟨ea8, eb8, ec8, hM8, hth, hO8⟩ := hp8
  rw [mk_if] at ea8
  cases ea8
  obtain rfl := eb8.symm
  obtain rfl := ec8.symm
  have hF := lw_fin e1 e2 e3 hL9 hm9 hM8 hO8 ho9 hJ'
  refine fs_istore (pc2 := 269) (kl_at_2 rfl) rfl rfl (Nat.le_of_ble_eq_true rfl) ?_
  refine fs_aload_n (pc2 := 270) (kl_at_2 rfl) rfl rfl rfl ?_
  refine lw_callv (dc := 0) (ds := 0) (pc2 := 273) (kl_at_2 rfl) rfl rfl rfl ⟨rfl, rfl⟩ (Nat.le_of_ble_eq_true rfl) rfl rfl (by omega) (by omega) (fs_rcv rfl m3) (m_thrown hm9) (fun v9 sh9 V9 n9 hp9 => ?_)
  obtain ⟨ea9, eb9, ec9, ed9⟩ := hp9
  cases ea9
  obtain rfl := eb9.symm
  obtain rfl := ec9.symm
  obtain rfl := ed9.symm
  rw [hth]
  refine fs_iload (pc2 := 275) (kl_at_2 rfl) rfl rfl rfl ?_
  refine fs_icmp_eq (pc2 := 278) (kl_at_2 rfl) rfl rfl (fun h275 => ?_) (fun h275 => absurd rfl h275)
  refine fs_iload (pc2 := 282) (kl_at_2 rfl) rfl rfl rfl ?_
  refine fs_if_ne (pc2 := 285) (kl_at_2 rfl) rfl rfl (fun h282 => ?_) (fun h282 => ?_)
  · refine fs_goto (kl_at_2 rfl) rfl ?_
    first | exact hN [(5, .int _)] _ _ _ _ _ (Or.inr (Or.inl ⟨_, rfl⟩)) hF (by omega) (by omega) | exact hN [(5, .int _), (6, .int _)] _ _ _ _ _ (Or.inr (Or.inr ⟨_, _, rfl⟩)) hF (by omega) (by omega) | exact hN [] _ _ _ _ _ (Or.inl rfl) hF (by omega) (by omega)
  · have hk0 : k = 0 := c_eq (a := k) (b := 0) h282 rfl rfl (by omega) (by omega)
    rw [if_pos hk0]
    refine fs_aload_n (pc2 := 286) (kl_at_2 rfl) rfl rfl rfl ?_
    refine fs_iconst (pc2 := 287) (kl_at_2 rfl) rfl rfl ?_
    refine fs_lald (pc2 := 288) (kl_at_2 rfl) rfl rfl ho9 (vp_in_nI (n := 0) (by decide) (by decide)) ?_
    refine fs_iload (pc2 := 290) (kl_at_2 rfl) rfl rfl rfl ?_
    refine fs_i2l (pc2 := 291) (kl_at_2 rfl) rfl rfl ?_
    refine fs_lcmp (pc2 := 292) (kl_at_2 rfl) rfl rfl ?_
    rw [hv9 hk0]
    refine fs_if_eq (pc2 := 295) (kl_at_2 rfl) rfl rfl (fun h292 => ?_) (fun h292 => absurd (lg_cmp_self _) h292)
    refine fs_goto (kl_at_2 rfl) rfl ?_
    first | exact hN [(5, .int _)] _ _ _ _ _ (Or.inr (Or.inl ⟨_, rfl⟩)) hF (by omega) (by omega) | exact hN [(5, .int _), (6, .int _)] _ _ _ _ _ (Or.inr (Or.inr ⟨_, _, rfl⟩)) hF (by omega) (by omega) | exact hN [] _ _ _ _ _ (Or.inl rfl) hF (by omega) (by omega)
set_option maxRecDepth 100000 in
set_option maxHeartbeats 4000000 in
theorem lc_feed_0 (hext : ev_HX l D cy zF ext) (hst : l.stackTraces = false) (hA : AlOK cy z0 a0 ext) (e1 : mb = c + 374) (e2 : oo = c + 420) (e3 : K = c + 421) (hI : LI K a0 c mb oo sh V n j) (hj : j < 512) (hx : 6 * j + 6 ≤ Lx) (hLx : Lx ≤ 3072) (hc : cc + 4 ≤ 601024) (hsl : sl + 740 ≤ 7293034) (hN : ∀ T' sh' V' n' c' sl', TS T' → LI K a0 c mb oo sh' V' n' (j + 1) → c' ≤ cc + 4 → sl' ≤ sl + 740 → lQ l D cy zF z0 ext b Lx xs Ret 1053 ([(0, .ref b), (1, .ref (z0 + c)), (2, .ref (z0 + mb)), (3, .ref (z0 + oo)), (4, .int (nI (6 * j)))] ++ T') [] sh' V' n' c' sl') : lQ l D cy zF z0 ext b Lx xs Ret 300 ([(0, .ref b), (1, .ref (z0 + c)), (2, .ref (z0 + mb)), (3, .ref (z0 + oo)), (4, .int (nI (6 * j)))]) [] sh V n cc sl := by
  obtain ⟨E, R, S, HH, g, hL, hm, hM, ho, hJ⟩ := hI
  obtain ⟨m1, m2⟩ := id hm
  have hcl := hL.1
  unfold isCL at hcl
  have hKn := hL.Kn
  have hq1 : vp_in (nI (6 * j) + 1) Lx := by rw [show (nI (6 * j) + 1 : Int32) = nI (6 * j + 1) from by rw [show (1 : Int32) = nI 1 from rfl, nI_add]]; exact vp_in_nI (by omega) (by omega)
  have hq2 : vp_in (nI (6 * j) + 2) Lx := by rw [show (nI (6 * j) + 2 : Int32) = nI (6 * j + 2) from by rw [show (2 : Int32) = nI 2 from rfl, nI_add]]; exact vp_in_nI (by omega) (by omega)
  have hq3 : vp_in (nI (6 * j) + 3) Lx := by rw [show (nI (6 * j) + 3 : Int32) = nI (6 * j + 3) from by rw [show (3 : Int32) = nI 3 from rfl, nI_add]]; exact vp_in_nI (by omega) (by omega)
  have hq4 : vp_in (nI (6 * j) + 4) Lx := by rw [show (nI (6 * j) + 4 : Int32) = nI (6 * j + 4) from by rw [show (4 : Int32) = nI 4 from rfl, nI_add]]; exact vp_in_nI (by omega) (by omega)
  have hq5 : vp_in (nI (6 * j) + 5) Lx := by rw [show (nI (6 * j) + 5 : Int32) = nI (6 * j + 5) from by rw [show (5 : Int32) = nI 5 from rfl, nI_add]]; exact vp_in_nI (by omega) (by omega)
  obtain ⟨k, x, S', HH', hkm, hJ', hsame, hC, hMP⟩ := tie_feed (K := K) (c := c) (mb := mb) (S := S) hext hst hJ hj (u := (xs (nI (6 * j) + 1).toNatClampNeg)) (ca := (xs (nI (6 * j) + 2).toNatClampNeg)) (cb := (xs (nI (6 * j) + 3).toNatClampNeg)) (cc := (xs (nI (6 * j) + 4).toNatClampNeg)) (cd := (xs (nI (6 * j) + 5).toNatClampNeg))
  refine fs_aload_n (pc2 := 301) (kl_at_3 rfl) rfl rfl rfl ?_
  refine fs_aload_n (pc2 := 302) (kl_at_3 rfl) rfl rfl rfl ?_
  refine fs_iload (pc2 := 304) (kl_at_3 rfl) rfl rfl rfl ?_
  refine fs_iconst (pc2 := 305) (kl_at_3 rfl) rfl rfl ?_
  refine fs_iadd (pc2 := 306) (kl_at_3 rfl) rfl rfl ?_
  refine lw_scr (pc2 := 307) (kl_at_3 rfl) rfl hq1 ?_
  refine fs_aload_n (pc2 := 308) (kl_at_3 rfl) rfl rfl rfl ?_
  refine fs_iload (pc2 := 310) (kl_at_3 rfl) rfl rfl rfl ?_
  refine fs_iconst (pc2 := 311) (kl_at_3 rfl) rfl rfl ?_
  refine fs_iadd (pc2 := 312) (kl_at_3 rfl) rfl rfl ?_
  refine lw_scr (pc2 := 313) (kl_at_3 rfl) rfl hq2 ?_
  refine fs_aload_n (pc2 := 314) (kl_at_3 rfl) rfl rfl rfl ?_
  refine fs_iload (pc2 := 316) (kl_at_3 rfl) rfl rfl rfl ?_
  refine fs_iconst (pc2 := 317) (kl_at_3 rfl) rfl rfl ?_
  refine fs_iadd (pc2 := 318) (kl_at_3 rfl) rfl rfl ?_
  refine lw_scr (pc2 := 319) (kl_at_3 rfl) rfl hq3 ?_
  refine fs_aload_n (pc2 := 320) (kl_at_3 rfl) rfl rfl rfl ?_
  refine fs_iload (pc2 := 322) (kl_at_3 rfl) rfl rfl rfl ?_
  refine fs_iconst (pc2 := 323) (kl_at_3 rfl) rfl rfl ?_
  refine fs_iadd (pc2 := 324) (kl_at_3 rfl) rfl rfl ?_
  refine lw_scr (pc2 := 325) (kl_at_3 rfl) rfl hq4 ?_
  refine fs_aload_n (pc2 := 326) (kl_at_3 rfl) rfl rfl rfl ?_
  refine fs_iload (pc2 := 328) (kl_at_3 rfl) rfl rfl rfl ?_
  refine fs_iconst (pc2 := 329) (kl_at_3 rfl) rfl rfl ?_
  refine fs_iadd (pc2 := 330) (kl_at_3 rfl) rfl rfl ?_
  refine lw_scr (pc2 := 331) (kl_at_3 rfl) rfl hq5 ?_
  refine fs_aload_n (pc2 := 332) (kl_at_3 rfl) rfl rfl rfl ?_
  refine lw_hlp (dc := 4) (ds := 740) (pc2 := 335) (kl_at_3 rfl) rfl kw_L_feed (h_feed hcl hkm (fun v sh' V' n' h => ⟨h.1, by rw [h.2.2.2.2 oo (by omega) (by omega)]; exact ho⟩) (hC sh V n E R hL)) rfl rfl (Nat.le_of_ble_eq_true rfl) rfl rfl hc hsl (fun v9 sh9 V9 n9 hp9 => ?_)
  obtain ⟨ea9, hp9⟩ := hp9
  cases ea9
  obtain ⟨E9, R9, g9, hL9, hm9, hM9, ho9, hv9⟩ := lw_aft (a := mkI x) e1 e2 e3 hL hm hM ho hsame hp9
  obtain ⟨m3, m4⟩ := id hm9
  refine fs_istore (pc2 := 337) (kl_at_3 rfl) rfl rfl (Nat.le_of_ble_eq_true rfl) ?_
  refine fs_aload_n (pc2 := 338) (kl_at_3 rfl) rfl rfl rfl ?_
  refine fs_aload_n (pc2 := 339) (kl_at_3 rfl) rfl rfl rfl ?_
  refine fs_iload (pc2 := 341) (kl_at_3 rfl) rfl rfl rfl ?_
  refine fs_iconst (pc2 := 342) (kl_at_3 rfl) rfl rfl ?_
  refine fs_iadd (pc2 := 343) (kl_at_3 rfl) rfl rfl ?_
  refine lw_scr (pc2 := 344) (kl_at_3 rfl) rfl hq1 ?_
  refine fs_aload_n (pc2 := 345) (kl_at_3 rfl) rfl rfl rfl ?_
  refine fs_iload (pc2 := 347) (kl_at_3 rfl) rfl rfl rfl ?_
  refine fs_iconst (pc2 := 348) (kl_at_3 rfl) rfl rfl ?_
  refine fs_iadd (pc2 := 349) (kl_at_3 rfl) rfl rfl ?_
  refine lw_scr (pc2 := 350) (kl_at_3 rfl) rfl hq2 ?_
  refine fs_aload_n (pc2 := 351) (kl_at_3 rfl) rfl rfl rfl ?_
  refine fs_iload (pc2 := 353) (kl_at_3 rfl) rfl rfl rfl ?_
  refine fs_iconst (pc2 := 354) (kl_at_3 rfl) rfl rfl ?_
  refine fs_iadd (pc2 := 355) (kl_at_3 rfl) rfl rfl ?_
  refine lw_scr (pc2 := 356) (kl_at_3 rfl) rfl hq3 ?_
  refine fs_aload_n (pc2 := 357) (kl_at_3 rfl) rfl rfl rfl ?_
  refine fs_iload (pc2 := 359) (kl_at_3 rfl) rfl rfl rfl ?_
  refine fs_iconst (pc2 := 360) (kl_at_3 rfl) rfl rfl ?_
  refine fs_iadd (pc2 := 361) (kl_at_3 rfl) rfl rfl ?_
  refine lw_scr (pc2 := 362) (kl_at_3 rfl) rfl hq4 ?_
  refine fs_aload_n (pc2 := 363) (kl_at_3 rfl) rfl rfl rfl ?_
  refine fs_iload (pc2 := 365) (kl_at_3 rfl) rfl rfl rfl ?_
  refine fs_iconst (pc2 := 366) (kl_at_3 rfl) rfl rfl ?_
  refine fs_iadd (pc2 := 367) (kl_at_3 rfl) rfl rfl ?_
  refine lw_scr (pc2 := 368) (kl_at_3 rfl) rfl hq5 ?_
  refine lw_callv (dc := 0) (ds := 0) (pc2 := 371) (kl_at_3 rfl) rfl rfl rfl ⟨rfl, rfl⟩ (Nat.le_of_ble_eq_true rfl) rfl rfl (by omega) (by omega) (fs_rcv rfl m3) (hMP _ _ _ hm9 hM9) (fun v8 sh8 V8 n8 hp8 => ?_)
  obtain ⟨ea8, eb8, ec8, hM8, hth, hO8⟩ := hp8
  rw [mk_if] at ea8
  cases ea8
  obtain rfl := eb8.symm
  obtain rfl := ec8.symm
  have hF := lw_fin e1 e2 e3 hL9 hm9 hM8 hO8 ho9 hJ'
  refine fs_istore (pc2 := 373) (kl_at_3 rfl) rfl rfl (Nat.le_of_ble_eq_true rfl) ?_
  refine fs_aload_n (pc2 := 374) (kl_at_3 rfl) rfl rfl rfl ?_
  refine lw_callv (dc := 0) (ds := 0) (pc2 := 377) (kl_at_3 rfl) rfl rfl rfl ⟨rfl, rfl⟩ (Nat.le_of_ble_eq_true rfl) rfl rfl (by omega) (by omega) (fs_rcv rfl m3) (m_thrown hm9) (fun v9 sh9 V9 n9 hp9 => ?_)
  obtain ⟨ea9, eb9, ec9, ed9⟩ := hp9
  cases ea9
  obtain rfl := eb9.symm
  obtain rfl := ec9.symm
  obtain rfl := ed9.symm
  rw [hth]
  refine fs_iload (pc2 := 379) (kl_at_3 rfl) rfl rfl rfl ?_
  refine fs_icmp_eq (pc2 := 382) (kl_at_3 rfl) rfl rfl (fun h379 => ?_) (fun h379 => absurd rfl h379)
  refine fs_iload (pc2 := 386) (kl_at_3 rfl) rfl rfl rfl ?_
  refine fs_if_ne (pc2 := 389) (kl_at_3 rfl) rfl rfl (fun h386 => ?_) (fun h386 => ?_)
  · refine fs_goto (kl_at_3 rfl) rfl ?_
    first | exact hN [(5, .int _)] _ _ _ _ _ (Or.inr (Or.inl ⟨_, rfl⟩)) hF (by omega) (by omega) | exact hN [(5, .int _), (6, .int _)] _ _ _ _ _ (Or.inr (Or.inr ⟨_, _, rfl⟩)) hF (by omega) (by omega) | exact hN [] _ _ _ _ _ (Or.inl rfl) hF (by omega) (by omega)
  · have hk0 : k = 0 := c_eq (a := k) (b := 0) h386 rfl rfl (by omega) (by omega)
    rw [if_pos hk0]
    refine fs_aload_n (pc2 := 390) (kl_at_3 rfl) rfl rfl rfl ?_
    refine fs_iconst (pc2 := 391) (kl_at_3 rfl) rfl rfl ?_
    refine fs_lald (pc2 := 392) (kl_at_3 rfl) rfl rfl ho9 (vp_in_nI (n := 0) (by decide) (by decide)) ?_
    refine fs_iload (pc2 := 394) (kl_at_3 rfl) rfl rfl rfl ?_
    refine fs_i2l (pc2 := 395) (kl_at_3 rfl) rfl rfl ?_
    refine fs_lcmp (pc2 := 396) (kl_at_3 rfl) rfl rfl ?_
    rw [hv9 hk0]
    refine fs_if_eq (pc2 := 399) (kl_at_3 rfl) rfl rfl (fun h396 => ?_) (fun h396 => absurd (lg_cmp_self _) h396)
    refine fs_goto (kl_at_3 rfl) rfl ?_
    first | exact hN [(5, .int _)] _ _ _ _ _ (Or.inr (Or.inl ⟨_, rfl⟩)) hF (by omega) (by omega) | exact hN [(5, .int _), (6, .int _)] _ _ _ _ _ (Or.inr (Or.inr ⟨_, _, rfl⟩)) hF (by omega) (by omega) | exact hN [] _ _ _ _ _ (Or.inl rfl) hF (by omega) (by omega)
set_option maxRecDepth 100000 in
set_option maxHeartbeats 4000000 in
theorem lc_feed_1 {u5 : Int32} (hext : ev_HX l D cy zF ext) (hst : l.stackTraces = false) (hA : AlOK cy z0 a0 ext) (e1 : mb = c + 374) (e2 : oo = c + 420) (e3 : K = c + 421) (hI : LI K a0 c mb oo sh V n j) (hj : j < 512) (hx : 6 * j + 6 ≤ Lx) (hLx : Lx ≤ 3072) (hc : cc + 4 ≤ 601024) (hsl : sl + 740 ≤ 7293034) (hN : ∀ T' sh' V' n' c' sl', TS T' → LI K a0 c mb oo sh' V' n' (j + 1) → c' ≤ cc + 4 → sl' ≤ sl + 740 → lQ l D cy zF z0 ext b Lx xs Ret 1053 ([(0, .ref b), (1, .ref (z0 + c)), (2, .ref (z0 + mb)), (3, .ref (z0 + oo)), (4, .int (nI (6 * j)))] ++ T') [] sh' V' n' c' sl') : lQ l D cy zF z0 ext b Lx xs Ret 300 ([(0, .ref b), (1, .ref (z0 + c)), (2, .ref (z0 + mb)), (3, .ref (z0 + oo)), (4, .int (nI (6 * j))), (5, .int u5)]) [] sh V n cc sl := by
  obtain ⟨E, R, S, HH, g, hL, hm, hM, ho, hJ⟩ := hI
  obtain ⟨m1, m2⟩ := id hm
  have hcl := hL.1
  unfold isCL at hcl
  have hKn := hL.Kn
  have hq1 : vp_in (nI (6 * j) + 1) Lx := by rw [show (nI (6 * j) + 1 : Int32) = nI (6 * j + 1) from by rw [show (1 : Int32) = nI 1 from rfl, nI_add]]; exact vp_in_nI (by omega) (by omega)
  have hq2 : vp_in (nI (6 * j) + 2) Lx := by rw [show (nI (6 * j) + 2 : Int32) = nI (6 * j + 2) from by rw [show (2 : Int32) = nI 2 from rfl, nI_add]]; exact vp_in_nI (by omega) (by omega)
  have hq3 : vp_in (nI (6 * j) + 3) Lx := by rw [show (nI (6 * j) + 3 : Int32) = nI (6 * j + 3) from by rw [show (3 : Int32) = nI 3 from rfl, nI_add]]; exact vp_in_nI (by omega) (by omega)
  have hq4 : vp_in (nI (6 * j) + 4) Lx := by rw [show (nI (6 * j) + 4 : Int32) = nI (6 * j + 4) from by rw [show (4 : Int32) = nI 4 from rfl, nI_add]]; exact vp_in_nI (by omega) (by omega)
  have hq5 : vp_in (nI (6 * j) + 5) Lx := by rw [show (nI (6 * j) + 5 : Int32) = nI (6 * j + 5) from by rw [show (5 : Int32) = nI 5 from rfl, nI_add]]; exact vp_in_nI (by omega) (by omega)
  obtain ⟨k, x, S', HH', hkm, hJ', hsame, hC, hMP⟩ := tie_feed (K := K) (c := c) (mb := mb) (S := S) hext hst hJ hj (u := (xs (nI (6 * j) + 1).toNatClampNeg)) (ca := (xs (nI (6 * j) + 2).toNatClampNeg)) (cb := (xs (nI (6 * j) + 3).toNatClampNeg)) (cc := (xs (nI (6 * j) + 4).toNatClampNeg)) (cd := (xs (nI (6 * j) + 5).toNatClampNeg))
  refine fs_aload_n (pc2 := 301) (kl_at_3 rfl) rfl rfl rfl ?_
  refine fs_aload_n (pc2 := 302) (kl_at_3 rfl) rfl rfl rfl ?_
  refine fs_iload (pc2 := 304) (kl_at_3 rfl) rfl rfl rfl ?_
  refine fs_iconst (pc2 := 305) (kl_at_3 rfl) rfl rfl ?_
  refine fs_iadd (pc2 := 306) (kl_at_3 rfl) rfl rfl ?_
  refine lw_scr (pc2 := 307) (kl_at_3 rfl) rfl hq1 ?_
  refine fs_aload_n (pc2 := 308) (kl_at_3 rfl) rfl rfl rfl ?_
  refine fs_iload (pc2 := 310) (kl_at_3 rfl) rfl rfl rfl ?_
  refine fs_iconst (pc2 := 311) (kl_at_3 rfl) rfl rfl ?_
  refine fs_iadd (pc2 := 312) (kl_at_3 rfl) rfl rfl ?_
  refine lw_scr (pc2 := 313) (kl_at_3 rfl) rfl hq2 ?_
  refine fs_aload_n (pc2 := 314) (kl_at_3 rfl) rfl rfl rfl ?_
  refine fs_iload (pc2 := 316) (kl_at_3 rfl) rfl rfl rfl ?_
  refine fs_iconst (pc2 := 317) (kl_at_3 rfl) rfl rfl ?_
  refine fs_iadd (pc2 := 318) (kl_at_3 rfl) rfl rfl ?_
  refine lw_scr (pc2 := 319) (kl_at_3 rfl) rfl hq3 ?_
  refine fs_aload_n (pc2 := 320) (kl_at_3 rfl) rfl rfl rfl ?_
  refine fs_iload (pc2 := 322) (kl_at_3 rfl) rfl rfl rfl ?_
  refine fs_iconst (pc2 := 323) (kl_at_3 rfl) rfl rfl ?_
  refine fs_iadd (pc2 := 324) (kl_at_3 rfl) rfl rfl ?_
  refine lw_scr (pc2 := 325) (kl_at_3 rfl) rfl hq4 ?_
  refine fs_aload_n (pc2 := 326) (kl_at_3 rfl) rfl rfl rfl ?_
  refine fs_iload (pc2 := 328) (kl_at_3 rfl) rfl rfl rfl ?_
  refine fs_iconst (pc2 := 329) (kl_at_3 rfl) rfl rfl ?_
  refine fs_iadd (pc2 := 330) (kl_at_3 rfl) rfl rfl ?_
  refine lw_scr (pc2 := 331) (kl_at_3 rfl) rfl hq5 ?_
  refine fs_aload_n (pc2 := 332) (kl_at_3 rfl) rfl rfl rfl ?_
  refine lw_hlp (dc := 4) (ds := 740) (pc2 := 335) (kl_at_3 rfl) rfl kw_L_feed (h_feed hcl hkm (fun v sh' V' n' h => ⟨h.1, by rw [h.2.2.2.2 oo (by omega) (by omega)]; exact ho⟩) (hC sh V n E R hL)) rfl rfl (Nat.le_of_ble_eq_true rfl) rfl rfl hc hsl (fun v9 sh9 V9 n9 hp9 => ?_)
  obtain ⟨ea9, hp9⟩ := hp9
  cases ea9
  obtain ⟨E9, R9, g9, hL9, hm9, hM9, ho9, hv9⟩ := lw_aft (a := mkI x) e1 e2 e3 hL hm hM ho hsame hp9
  obtain ⟨m3, m4⟩ := id hm9
  refine fs_istore (pc2 := 337) (kl_at_3 rfl) rfl rfl (Nat.le_of_ble_eq_true rfl) ?_
  refine fs_aload_n (pc2 := 338) (kl_at_3 rfl) rfl rfl rfl ?_
  refine fs_aload_n (pc2 := 339) (kl_at_3 rfl) rfl rfl rfl ?_
  refine fs_iload (pc2 := 341) (kl_at_3 rfl) rfl rfl rfl ?_
  refine fs_iconst (pc2 := 342) (kl_at_3 rfl) rfl rfl ?_
  refine fs_iadd (pc2 := 343) (kl_at_3 rfl) rfl rfl ?_
  refine lw_scr (pc2 := 344) (kl_at_3 rfl) rfl hq1 ?_
  refine fs_aload_n (pc2 := 345) (kl_at_3 rfl) rfl rfl rfl ?_
  refine fs_iload (pc2 := 347) (kl_at_3 rfl) rfl rfl rfl ?_
  refine fs_iconst (pc2 := 348) (kl_at_3 rfl) rfl rfl ?_
  refine fs_iadd (pc2 := 349) (kl_at_3 rfl) rfl rfl ?_
  refine lw_scr (pc2 := 350) (kl_at_3 rfl) rfl hq2 ?_
  refine fs_aload_n (pc2 := 351) (kl_at_3 rfl) rfl rfl rfl ?_
  refine fs_iload (pc2 := 353) (kl_at_3 rfl) rfl rfl rfl ?_
  refine fs_iconst (pc2 := 354) (kl_at_3 rfl) rfl rfl ?_
  refine fs_iadd (pc2 := 355) (kl_at_3 rfl) rfl rfl ?_
  refine lw_scr (pc2 := 356) (kl_at_3 rfl) rfl hq3 ?_
  refine fs_aload_n (pc2 := 357) (kl_at_3 rfl) rfl rfl rfl ?_
  refine fs_iload (pc2 := 359) (kl_at_3 rfl) rfl rfl rfl ?_
  refine fs_iconst (pc2 := 360) (kl_at_3 rfl) rfl rfl ?_
  refine fs_iadd (pc2 := 361) (kl_at_3 rfl) rfl rfl ?_
  refine lw_scr (pc2 := 362) (kl_at_3 rfl) rfl hq4 ?_
  refine fs_aload_n (pc2 := 363) (kl_at_3 rfl) rfl rfl rfl ?_
  refine fs_iload (pc2 := 365) (kl_at_3 rfl) rfl rfl rfl ?_
  refine fs_iconst (pc2 := 366) (kl_at_3 rfl) rfl rfl ?_
  refine fs_iadd (pc2 := 367) (kl_at_3 rfl) rfl rfl ?_
  refine lw_scr (pc2 := 368) (kl_at_3 rfl) rfl hq5 ?_
  refine lw_callv (dc := 0) (ds := 0) (pc2 := 371) (kl_at_3 rfl) rfl rfl rfl ⟨rfl, rfl⟩ (Nat.le_of_ble_eq_true rfl) rfl rfl (by omega) (by omega) (fs_rcv rfl m3) (hMP _ _ _ hm9 hM9) (fun v8 sh8 V8 n8 hp8 => ?_)
  obtain ⟨ea8, eb8, ec8, hM8, hth, hO8⟩ := hp8
  rw [mk_if] at ea8
  cases ea8
  obtain rfl := eb8.symm
  obtain rfl := ec8.symm
  have hF := lw_fin e1 e2 e3 hL9 hm9 hM8 hO8 ho9 hJ'
  refine fs_istore (pc2 := 373) (kl_at_3 rfl) rfl rfl (Nat.le_of_ble_eq_true rfl) ?_
  refine fs_aload_n (pc2 := 374) (kl_at_3 rfl) rfl rfl rfl ?_
  refine lw_callv (dc := 0) (ds := 0) (pc2 := 377) (kl_at_3 rfl) rfl rfl rfl ⟨rfl, rfl⟩ (Nat.le_of_ble_eq_true rfl) rfl rfl (by omega) (by omega) (fs_rcv rfl m3) (m_thrown hm9) (fun v9 sh9 V9 n9 hp9 => ?_)
  obtain ⟨ea9, eb9, ec9, ed9⟩ := hp9
  cases ea9
  obtain rfl := eb9.symm
  obtain rfl := ec9.symm
  obtain rfl := ed9.symm
  rw [hth]
  refine fs_iload (pc2 := 379) (kl_at_3 rfl) rfl rfl rfl ?_
  refine fs_icmp_eq (pc2 := 382) (kl_at_3 rfl) rfl rfl (fun h379 => ?_) (fun h379 => absurd rfl h379)
  refine fs_iload (pc2 := 386) (kl_at_3 rfl) rfl rfl rfl ?_
  refine fs_if_ne (pc2 := 389) (kl_at_3 rfl) rfl rfl (fun h386 => ?_) (fun h386 => ?_)
  · refine fs_goto (kl_at_3 rfl) rfl ?_
    first | exact hN [(5, .int _)] _ _ _ _ _ (Or.inr (Or.inl ⟨_, rfl⟩)) hF (by omega) (by omega) | exact hN [(5, .int _), (6, .int _)] _ _ _ _ _ (Or.inr (Or.inr ⟨_, _, rfl⟩)) hF (by omega) (by omega) | exact hN [] _ _ _ _ _ (Or.inl rfl) hF (by omega) (by omega)
  · have hk0 : k = 0 := c_eq (a := k) (b := 0) h386 rfl rfl (by omega) (by omega)
    rw [if_pos hk0]
    refine fs_aload_n (pc2 := 390) (kl_at_3 rfl) rfl rfl rfl ?_
    refine fs_iconst (pc2 := 391) (kl_at_3 rfl) rfl rfl ?_
    refine fs_lald (pc2 := 392) (kl_at_3 rfl) rfl rfl ho9 (vp_in_nI (n := 0) (by decide) (by decide)) ?_
    refine fs_iload (pc2 := 394) (kl_at_3 rfl) rfl rfl rfl ?_
    refine fs_i2l (pc2 := 395) (kl_at_3 rfl) rfl rfl ?_
    refine fs_lcmp (pc2 := 396) (kl_at_3 rfl) rfl rfl ?_
    rw [hv9 hk0]
    refine fs_if_eq (pc2 := 399) (kl_at_3 rfl) rfl rfl (fun h396 => ?_) (fun h396 => absurd (lg_cmp_self _) h396)
    refine fs_goto (kl_at_3 rfl) rfl ?_
    first | exact hN [(5, .int _)] _ _ _ _ _ (Or.inr (Or.inl ⟨_, rfl⟩)) hF (by omega) (by omega) | exact hN [(5, .int _), (6, .int _)] _ _ _ _ _ (Or.inr (Or.inr ⟨_, _, rfl⟩)) hF (by omega) (by omega) | exact hN [] _ _ _ _ _ (Or.inl rfl) hF (by omega) (by omega)
set_option maxRecDepth 100000 in
set_option maxHeartbeats 4000000 in
theorem lc_feed_2 {u5 u6 : Int32} (hext : ev_HX l D cy zF ext) (hst : l.stackTraces = false) (hA : AlOK cy z0 a0 ext) (e1 : mb = c + 374) (e2 : oo = c + 420) (e3 : K = c + 421) (hI : LI K a0 c mb oo sh V n j) (hj : j < 512) (hx : 6 * j + 6 ≤ Lx) (hLx : Lx ≤ 3072) (hc : cc + 4 ≤ 601024) (hsl : sl + 740 ≤ 7293034) (hN : ∀ T' sh' V' n' c' sl', TS T' → LI K a0 c mb oo sh' V' n' (j + 1) → c' ≤ cc + 4 → sl' ≤ sl + 740 → lQ l D cy zF z0 ext b Lx xs Ret 1053 ([(0, .ref b), (1, .ref (z0 + c)), (2, .ref (z0 + mb)), (3, .ref (z0 + oo)), (4, .int (nI (6 * j)))] ++ T') [] sh' V' n' c' sl') : lQ l D cy zF z0 ext b Lx xs Ret 300 ([(0, .ref b), (1, .ref (z0 + c)), (2, .ref (z0 + mb)), (3, .ref (z0 + oo)), (4, .int (nI (6 * j))), (5, .int u5), (6, .int u6)]) [] sh V n cc sl := by
  obtain ⟨E, R, S, HH, g, hL, hm, hM, ho, hJ⟩ := hI
  obtain ⟨m1, m2⟩ := id hm
  have hcl := hL.1
  unfold isCL at hcl
  have hKn := hL.Kn
  have hq1 : vp_in (nI (6 * j) + 1) Lx := by rw [show (nI (6 * j) + 1 : Int32) = nI (6 * j + 1) from by rw [show (1 : Int32) = nI 1 from rfl, nI_add]]; exact vp_in_nI (by omega) (by omega)
  have hq2 : vp_in (nI (6 * j) + 2) Lx := by rw [show (nI (6 * j) + 2 : Int32) = nI (6 * j + 2) from by rw [show (2 : Int32) = nI 2 from rfl, nI_add]]; exact vp_in_nI (by omega) (by omega)
  have hq3 : vp_in (nI (6 * j) + 3) Lx := by rw [show (nI (6 * j) + 3 : Int32) = nI (6 * j + 3) from by rw [show (3 : Int32) = nI 3 from rfl, nI_add]]; exact vp_in_nI (by omega) (by omega)
  have hq4 : vp_in (nI (6 * j) + 4) Lx := by rw [show (nI (6 * j) + 4 : Int32) = nI (6 * j + 4) from by rw [show (4 : Int32) = nI 4 from rfl, nI_add]]; exact vp_in_nI (by omega) (by omega)
  have hq5 : vp_in (nI (6 * j) + 5) Lx := by rw [show (nI (6 * j) + 5 : Int32) = nI (6 * j + 5) from by rw [show (5 : Int32) = nI 5 from rfl, nI_add]]; exact vp_in_nI (by omega) (by omega)
  obtain ⟨k, x, S', HH', hkm, hJ', hsame, hC, hMP⟩ := tie_feed (K := K) (c := c) (mb := mb) (S := S) hext hst hJ hj (u := (xs (nI (6 * j) + 1).toNatClampNeg)) (ca := (xs (nI (6 * j) + 2).toNatClampNeg)) (cb := (xs (nI (6 * j) + 3).toNatClampNeg)) (cc := (xs (nI (6 * j) + 4).toNatClampNeg)) (cd := (xs (nI (6 * j) + 5).toNatClampNeg))
  refine fs_aload_n (pc2 := 301) (kl_at_3 rfl) rfl rfl rfl ?_
  refine fs_aload_n (pc2 := 302) (kl_at_3 rfl) rfl rfl rfl ?_
  refine fs_iload (pc2 := 304) (kl_at_3 rfl) rfl rfl rfl ?_
  refine fs_iconst (pc2 := 305) (kl_at_3 rfl) rfl rfl ?_
  refine fs_iadd (pc2 := 306) (kl_at_3 rfl) rfl rfl ?_
  refine lw_scr (pc2 := 307) (kl_at_3 rfl) rfl hq1 ?_
  refine fs_aload_n (pc2 := 308) (kl_at_3 rfl) rfl rfl rfl ?_
  refine fs_iload (pc2 := 310) (kl_at_3 rfl) rfl rfl rfl ?_
  refine fs_iconst (pc2 := 311) (kl_at_3 rfl) rfl rfl ?_
  refine fs_iadd (pc2 := 312) (kl_at_3 rfl) rfl rfl ?_
  refine lw_scr (pc2 := 313) (kl_at_3 rfl) rfl hq2 ?_
  refine fs_aload_n (pc2 := 314) (kl_at_3 rfl) rfl rfl rfl ?_
  refine fs_iload (pc2 := 316) (kl_at_3 rfl) rfl rfl rfl ?_
  refine fs_iconst (pc2 := 317) (kl_at_3 rfl) rfl rfl ?_
  refine fs_iadd (pc2 := 318) (kl_at_3 rfl) rfl rfl ?_
  refine lw_scr (pc2 := 319) (kl_at_3 rfl) rfl hq3 ?_
  refine fs_aload_n (pc2 := 320) (kl_at_3 rfl) rfl rfl rfl ?_
  refine fs_iload (pc2 := 322) (kl_at_3 rfl) rfl rfl rfl ?_
  refine fs_iconst (pc2 := 323) (kl_at_3 rfl) rfl rfl ?_
  refine fs_iadd (pc2 := 324) (kl_at_3 rfl) rfl rfl ?_
  refine lw_scr (pc2 := 325) (kl_at_3 rfl) rfl hq4 ?_
  refine fs_aload_n (pc2 := 326) (kl_at_3 rfl) rfl rfl rfl ?_
  refine fs_iload (pc2 := 328) (kl_at_3 rfl) rfl rfl rfl ?_
  refine fs_iconst (pc2 := 329) (kl_at_3 rfl) rfl rfl ?_
  refine fs_iadd (pc2 := 330) (kl_at_3 rfl) rfl rfl ?_
  refine lw_scr (pc2 := 331) (kl_at_3 rfl) rfl hq5 ?_
  refine fs_aload_n (pc2 := 332) (kl_at_3 rfl) rfl rfl rfl ?_
  refine lw_hlp (dc := 4) (ds := 740) (pc2 := 335) (kl_at_3 rfl) rfl kw_L_feed (h_feed hcl hkm (fun v sh' V' n' h => ⟨h.1, by rw [h.2.2.2.2 oo (by omega) (by omega)]; exact ho⟩) (hC sh V n E R hL)) rfl rfl (Nat.le_of_ble_eq_true rfl) rfl rfl hc hsl (fun v9 sh9 V9 n9 hp9 => ?_)
  obtain ⟨ea9, hp9⟩ := hp9
  cases ea9
  obtain ⟨E9, R9, g9, hL9, hm9, hM9, ho9, hv9⟩ := lw_aft (a := mkI x) e1 e2 e3 hL hm hM ho hsame hp9
  obtain ⟨m3, m4⟩ := id hm9
  refine fs_istore (pc2 := 337) (kl_at_3 rfl) rfl rfl (Nat.le_of_ble_eq_true rfl) ?_
  refine fs_aload_n (pc2 := 338) (kl_at_3 rfl) rfl rfl rfl ?_
  refine fs_aload_n (pc2 := 339) (kl_at_3 rfl) rfl rfl rfl ?_
  refine fs_iload (pc2 := 341) (kl_at_3 rfl) rfl rfl rfl ?_
  refine fs_iconst (pc2 := 342) (kl_at_3 rfl) rfl rfl ?_
  refine fs_iadd (pc2 := 343) (kl_at_3 rfl) rfl rfl ?_
  refine lw_scr (pc2 := 344) (kl_at_3 rfl) rfl hq1 ?_
  refine fs_aload_n (pc2 := 345) (kl_at_3 rfl) rfl rfl rfl ?_
  refine fs_iload (pc2 := 347) (kl_at_3 rfl) rfl rfl rfl ?_
  refine fs_iconst (pc2 := 348) (kl_at_3 rfl) rfl rfl ?_
  refine fs_iadd (pc2 := 349) (kl_at_3 rfl) rfl rfl ?_
  refine lw_scr (pc2 := 350) (kl_at_3 rfl) rfl hq2 ?_
  refine fs_aload_n (pc2 := 351) (kl_at_3 rfl) rfl rfl rfl ?_
  refine fs_iload (pc2 := 353) (kl_at_3 rfl) rfl rfl rfl ?_
  refine fs_iconst (pc2 := 354) (kl_at_3 rfl) rfl rfl ?_
  refine fs_iadd (pc2 := 355) (kl_at_3 rfl) rfl rfl ?_
  refine lw_scr (pc2 := 356) (kl_at_3 rfl) rfl hq3 ?_
  refine fs_aload_n (pc2 := 357) (kl_at_3 rfl) rfl rfl rfl ?_
  refine fs_iload (pc2 := 359) (kl_at_3 rfl) rfl rfl rfl ?_
  refine fs_iconst (pc2 := 360) (kl_at_3 rfl) rfl rfl ?_
  refine fs_iadd (pc2 := 361) (kl_at_3 rfl) rfl rfl ?_
  refine lw_scr (pc2 := 362) (kl_at_3 rfl) rfl hq4 ?_
  refine fs_aload_n (pc2 := 363) (kl_at_3 rfl) rfl rfl rfl ?_
  refine fs_iload (pc2 := 365) (kl_at_3 rfl) rfl rfl rfl ?_
  refine fs_iconst (pc2 := 366) (kl_at_3 rfl) rfl rfl ?_
  refine fs_iadd (pc2 := 367) (kl_at_3 rfl) rfl rfl ?_
  refine lw_scr (pc2 := 368) (kl_at_3 rfl) rfl hq5 ?_
  refine lw_callv (dc := 0) (ds := 0) (pc2 := 371) (kl_at_3 rfl) rfl rfl rfl ⟨rfl, rfl⟩ (Nat.le_of_ble_eq_true rfl) rfl rfl (by omega) (by omega) (fs_rcv rfl m3) (hMP _ _ _ hm9 hM9) (fun v8 sh8 V8 n8 hp8 => ?_)
  obtain ⟨ea8, eb8, ec8, hM8, hth, hO8⟩ := hp8
  rw [mk_if] at ea8
  cases ea8
  obtain rfl := eb8.symm
  obtain rfl := ec8.symm
  have hF := lw_fin e1 e2 e3 hL9 hm9 hM8 hO8 ho9 hJ'
  refine fs_istore (pc2 := 373) (kl_at_3 rfl) rfl rfl (Nat.le_of_ble_eq_true rfl) ?_
  refine fs_aload_n (pc2 := 374) (kl_at_3 rfl) rfl rfl rfl ?_
  refine lw_callv (dc := 0) (ds := 0) (pc2 := 377) (kl_at_3 rfl) rfl rfl rfl ⟨rfl, rfl⟩ (Nat.le_of_ble_eq_true rfl) rfl rfl (by omega) (by omega) (fs_rcv rfl m3) (m_thrown hm9) (fun v9 sh9 V9 n9 hp9 => ?_)
  obtain ⟨ea9, eb9, ec9, ed9⟩ := hp9
  cases ea9
  obtain rfl := eb9.symm
  obtain rfl := ec9.symm
  obtain rfl := ed9.symm
  rw [hth]
  refine fs_iload (pc2 := 379) (kl_at_3 rfl) rfl rfl rfl ?_
  refine fs_icmp_eq (pc2 := 382) (kl_at_3 rfl) rfl rfl (fun h379 => ?_) (fun h379 => absurd rfl h379)
  refine fs_iload (pc2 := 386) (kl_at_3 rfl) rfl rfl rfl ?_
  refine fs_if_ne (pc2 := 389) (kl_at_3 rfl) rfl rfl (fun h386 => ?_) (fun h386 => ?_)
  · refine fs_goto (kl_at_3 rfl) rfl ?_
    first | exact hN [(5, .int _)] _ _ _ _ _ (Or.inr (Or.inl ⟨_, rfl⟩)) hF (by omega) (by omega) | exact hN [(5, .int _), (6, .int _)] _ _ _ _ _ (Or.inr (Or.inr ⟨_, _, rfl⟩)) hF (by omega) (by omega) | exact hN [] _ _ _ _ _ (Or.inl rfl) hF (by omega) (by omega)
  · have hk0 : k = 0 := c_eq (a := k) (b := 0) h386 rfl rfl (by omega) (by omega)
    rw [if_pos hk0]
    refine fs_aload_n (pc2 := 390) (kl_at_3 rfl) rfl rfl rfl ?_
    refine fs_iconst (pc2 := 391) (kl_at_3 rfl) rfl rfl ?_
    refine fs_lald (pc2 := 392) (kl_at_3 rfl) rfl rfl ho9 (vp_in_nI (n := 0) (by decide) (by decide)) ?_
    refine fs_iload (pc2 := 394) (kl_at_3 rfl) rfl rfl rfl ?_
    refine fs_i2l (pc2 := 395) (kl_at_3 rfl) rfl rfl ?_
    refine fs_lcmp (pc2 := 396) (kl_at_3 rfl) rfl rfl ?_
    rw [hv9 hk0]
    refine fs_if_eq (pc2 := 399) (kl_at_3 rfl) rfl rfl (fun h396 => ?_) (fun h396 => absurd (lg_cmp_self _) h396)
    refine fs_goto (kl_at_3 rfl) rfl ?_
    first | exact hN [(5, .int _)] _ _ _ _ _ (Or.inr (Or.inl ⟨_, rfl⟩)) hF (by omega) (by omega) | exact hN [(5, .int _), (6, .int _)] _ _ _ _ _ (Or.inr (Or.inr ⟨_, _, rfl⟩)) hF (by omega) (by omega) | exact hN [] _ _ _ _ _ (Or.inl rfl) hF (by omega) (by omega)
set_option maxRecDepth 100000 in
set_option maxHeartbeats 4000000 in
theorem lc_erase_0 (hext : ev_HX l D cy zF ext) (hst : l.stackTraces = false) (hA : AlOK cy z0 a0 ext) (e1 : mb = c + 374) (e2 : oo = c + 420) (e3 : K = c + 421) (hI : LI K a0 c mb oo sh V n j) (hj : j < 512) (hx : 6 * j + 6 ≤ Lx) (hLx : Lx ≤ 3072) (hc : cc + 4 ≤ 601024) (hsl : sl + 740 ≤ 7293034) (hN : ∀ T' sh' V' n' c' sl', TS T' → LI K a0 c mb oo sh' V' n' (j + 1) → c' ≤ cc + 4 → sl' ≤ sl + 740 → lQ l D cy zF z0 ext b Lx xs Ret 1053 ([(0, .ref b), (1, .ref (z0 + c)), (2, .ref (z0 + mb)), (3, .ref (z0 + oo)), (4, .int (nI (6 * j)))] ++ T') [] sh' V' n' c' sl') : lQ l D cy zF z0 ext b Lx xs Ret 404 ([(0, .ref b), (1, .ref (z0 + c)), (2, .ref (z0 + mb)), (3, .ref (z0 + oo)), (4, .int (nI (6 * j)))]) [] sh V n cc sl := by
  obtain ⟨E, R, S, HH, g, hL, hm, hM, ho, hJ⟩ := hI
  obtain ⟨m1, m2⟩ := id hm
  have hcl := hL.1
  unfold isCL at hcl
  have hKn := hL.Kn
  refine fs_aload_n (pc2 := 405) (kl_at_4 rfl) rfl rfl rfl ?_
  refine lw_callv (dc := 0) (ds := 0) (pc2 := 408) (kl_at_4 rfl) rfl rfl rfl ⟨rfl, rfl⟩ (Nat.le_of_ble_eq_true rfl) rfl rfl (by omega) (by omega) (fs_rcv rfl hcl) (e_erase (d := 13) hL) (fun v9 sh9 V9 n9 hp9 => ?_)
  obtain ⟨ea9, ⟨E9, R9, hL9⟩, hFC⟩ := hp9
  cases ea9
  obtain ⟨E9, R9, g9, hL9, hm9, hM9, ho9⟩ := lw_aftV (k := 0) (S' := []) (HH' := HH) (a := none) e1 e2 e3 hL hm hM ho (fun z => absurd rfl z) (Or.inl ⟨rfl, rfl, ⟨_, _, hL9⟩, hFC⟩)
  obtain ⟨m3, m4⟩ := id hm9
  refine fs_aload_n (pc2 := 409) (kl_at_4 rfl) rfl rfl rfl ?_
  refine lw_callv (dc := 0) (ds := 0) (pc2 := 412) (kl_at_4 rfl) rfl rfl rfl ⟨rfl, rfl⟩ (Nat.le_of_ble_eq_true rfl) rfl rfl (by omega) (by omega) (fs_rcv rfl m3) (m_erase (d := 14) hm9 hM9) (fun v8 sh8 V8 n8 hp8 => ?_)
  obtain ⟨ea8, eb8, ec8, hM8, hth, hO8⟩ := hp8
  cases ea8
  obtain rfl := eb8.symm
  obtain rfl := ec8.symm
  have hF := lw_fin (t := j + 1) e1 e2 e3 hL9 hm9 (hM8.mono (fun i _ => ⟨Nat.le_succ _, by omega⟩)) hO8 ho9 hJ.mono
  refine fs_icmp_eq (pc2 := 415) (kl_at_4 rfl) rfl rfl (fun h412 => ?_) (fun h412 => absurd rfl h412)
  first | exact hN [(5, .int _)] _ _ _ _ _ (Or.inr (Or.inl ⟨_, rfl⟩)) hF (by omega) (by omega) | exact hN [(5, .int _), (6, .int _)] _ _ _ _ _ (Or.inr (Or.inr ⟨_, _, rfl⟩)) hF (by omega) (by omega) | exact hN [] _ _ _ _ _ (Or.inl rfl) hF (by omega) (by omega)
set_option maxRecDepth 100000 in
set_option maxHeartbeats 4000000 in
theorem lc_erase_1 {u5 : Int32} (hext : ev_HX l D cy zF ext) (hst : l.stackTraces = false) (hA : AlOK cy z0 a0 ext) (e1 : mb = c + 374) (e2 : oo = c + 420) (e3 : K = c + 421) (hI : LI K a0 c mb oo sh V n j) (hj : j < 512) (hx : 6 * j + 6 ≤ Lx) (hLx : Lx ≤ 3072) (hc : cc + 4 ≤ 601024) (hsl : sl + 740 ≤ 7293034) (hN : ∀ T' sh' V' n' c' sl', TS T' → LI K a0 c mb oo sh' V' n' (j + 1) → c' ≤ cc + 4 → sl' ≤ sl + 740 → lQ l D cy zF z0 ext b Lx xs Ret 1053 ([(0, .ref b), (1, .ref (z0 + c)), (2, .ref (z0 + mb)), (3, .ref (z0 + oo)), (4, .int (nI (6 * j)))] ++ T') [] sh' V' n' c' sl') : lQ l D cy zF z0 ext b Lx xs Ret 404 ([(0, .ref b), (1, .ref (z0 + c)), (2, .ref (z0 + mb)), (3, .ref (z0 + oo)), (4, .int (nI (6 * j))), (5, .int u5)]) [] sh V n cc sl := by
  obtain ⟨E, R, S, HH, g, hL, hm, hM, ho, hJ⟩ := hI
  obtain ⟨m1, m2⟩ := id hm
  have hcl := hL.1
  unfold isCL at hcl
  have hKn := hL.Kn
  refine fs_aload_n (pc2 := 405) (kl_at_4 rfl) rfl rfl rfl ?_
  refine lw_callv (dc := 0) (ds := 0) (pc2 := 408) (kl_at_4 rfl) rfl rfl rfl ⟨rfl, rfl⟩ (Nat.le_of_ble_eq_true rfl) rfl rfl (by omega) (by omega) (fs_rcv rfl hcl) (e_erase (d := 13) hL) (fun v9 sh9 V9 n9 hp9 => ?_)
  obtain ⟨ea9, ⟨E9, R9, hL9⟩, hFC⟩ := hp9
  cases ea9
  obtain ⟨E9, R9, g9, hL9, hm9, hM9, ho9⟩ := lw_aftV (k := 0) (S' := []) (HH' := HH) (a := none) e1 e2 e3 hL hm hM ho (fun z => absurd rfl z) (Or.inl ⟨rfl, rfl, ⟨_, _, hL9⟩, hFC⟩)
  obtain ⟨m3, m4⟩ := id hm9
  refine fs_aload_n (pc2 := 409) (kl_at_4 rfl) rfl rfl rfl ?_
  refine lw_callv (dc := 0) (ds := 0) (pc2 := 412) (kl_at_4 rfl) rfl rfl rfl ⟨rfl, rfl⟩ (Nat.le_of_ble_eq_true rfl) rfl rfl (by omega) (by omega) (fs_rcv rfl m3) (m_erase (d := 14) hm9 hM9) (fun v8 sh8 V8 n8 hp8 => ?_)
  obtain ⟨ea8, eb8, ec8, hM8, hth, hO8⟩ := hp8
  cases ea8
  obtain rfl := eb8.symm
  obtain rfl := ec8.symm
  have hF := lw_fin (t := j + 1) e1 e2 e3 hL9 hm9 (hM8.mono (fun i _ => ⟨Nat.le_succ _, by omega⟩)) hO8 ho9 hJ.mono
  refine fs_icmp_eq (pc2 := 415) (kl_at_4 rfl) rfl rfl (fun h412 => ?_) (fun h412 => absurd rfl h412)
  first | exact hN [(5, .int _)] _ _ _ _ _ (Or.inr (Or.inl ⟨_, rfl⟩)) hF (by omega) (by omega) | exact hN [(5, .int _), (6, .int _)] _ _ _ _ _ (Or.inr (Or.inr ⟨_, _, rfl⟩)) hF (by omega) (by omega) | exact hN [] _ _ _ _ _ (Or.inl rfl) hF (by omega) (by omega)
set_option maxRecDepth 100000 in
set_option maxHeartbeats 4000000 in
theorem lc_erase_2 {u5 u6 : Int32} (hext : ev_HX l D cy zF ext) (hst : l.stackTraces = false) (hA : AlOK cy z0 a0 ext) (e1 : mb = c + 374) (e2 : oo = c + 420) (e3 : K = c + 421) (hI : LI K a0 c mb oo sh V n j) (hj : j < 512) (hx : 6 * j + 6 ≤ Lx) (hLx : Lx ≤ 3072) (hc : cc + 4 ≤ 601024) (hsl : sl + 740 ≤ 7293034) (hN : ∀ T' sh' V' n' c' sl', TS T' → LI K a0 c mb oo sh' V' n' (j + 1) → c' ≤ cc + 4 → sl' ≤ sl + 740 → lQ l D cy zF z0 ext b Lx xs Ret 1053 ([(0, .ref b), (1, .ref (z0 + c)), (2, .ref (z0 + mb)), (3, .ref (z0 + oo)), (4, .int (nI (6 * j)))] ++ T') [] sh' V' n' c' sl') : lQ l D cy zF z0 ext b Lx xs Ret 404 ([(0, .ref b), (1, .ref (z0 + c)), (2, .ref (z0 + mb)), (3, .ref (z0 + oo)), (4, .int (nI (6 * j))), (5, .int u5), (6, .int u6)]) [] sh V n cc sl := by
  obtain ⟨E, R, S, HH, g, hL, hm, hM, ho, hJ⟩ := hI
  obtain ⟨m1, m2⟩ := id hm
  have hcl := hL.1
  unfold isCL at hcl
  have hKn := hL.Kn
  refine fs_aload_n (pc2 := 405) (kl_at_4 rfl) rfl rfl rfl ?_
  refine lw_callv (dc := 0) (ds := 0) (pc2 := 408) (kl_at_4 rfl) rfl rfl rfl ⟨rfl, rfl⟩ (Nat.le_of_ble_eq_true rfl) rfl rfl (by omega) (by omega) (fs_rcv rfl hcl) (e_erase (d := 13) hL) (fun v9 sh9 V9 n9 hp9 => ?_)
  obtain ⟨ea9, ⟨E9, R9, hL9⟩, hFC⟩ := hp9
  cases ea9
  obtain ⟨E9, R9, g9, hL9, hm9, hM9, ho9⟩ := lw_aftV (k := 0) (S' := []) (HH' := HH) (a := none) e1 e2 e3 hL hm hM ho (fun z => absurd rfl z) (Or.inl ⟨rfl, rfl, ⟨_, _, hL9⟩, hFC⟩)
  obtain ⟨m3, m4⟩ := id hm9
  refine fs_aload_n (pc2 := 409) (kl_at_4 rfl) rfl rfl rfl ?_
  refine lw_callv (dc := 0) (ds := 0) (pc2 := 412) (kl_at_4 rfl) rfl rfl rfl ⟨rfl, rfl⟩ (Nat.le_of_ble_eq_true rfl) rfl rfl (by omega) (by omega) (fs_rcv rfl m3) (m_erase (d := 14) hm9 hM9) (fun v8 sh8 V8 n8 hp8 => ?_)
  obtain ⟨ea8, eb8, ec8, hM8, hth, hO8⟩ := hp8
  cases ea8
  obtain rfl := eb8.symm
  obtain rfl := ec8.symm
  have hF := lw_fin (t := j + 1) e1 e2 e3 hL9 hm9 (hM8.mono (fun i _ => ⟨Nat.le_succ _, by omega⟩)) hO8 ho9 hJ.mono
  refine fs_icmp_eq (pc2 := 415) (kl_at_4 rfl) rfl rfl (fun h412 => ?_) (fun h412 => absurd rfl h412)
  first | exact hN [(5, .int _)] _ _ _ _ _ (Or.inr (Or.inl ⟨_, rfl⟩)) hF (by omega) (by omega) | exact hN [(5, .int _), (6, .int _)] _ _ _ _ _ (Or.inr (Or.inr ⟨_, _, rfl⟩)) hF (by omega) (by omega) | exact hN [] _ _ _ _ _ (Or.inl rfl) hF (by omega) (by omega)
set_option maxRecDepth 100000 in
set_option maxHeartbeats 4000000 in
theorem lc_send_0 (hext : ev_HX l D cy zF ext) (hst : l.stackTraces = false) (hA : AlOK cy z0 a0 ext) (e1 : mb = c + 374) (e2 : oo = c + 420) (e3 : K = c + 421) (hI : LI K a0 c mb oo sh V n j) (hj : j < 512) (hx : 6 * j + 6 ≤ Lx) (hLx : Lx ≤ 3072) (hc : cc + 4 ≤ 601024) (hsl : sl + 740 ≤ 7293034) (hN : ∀ T' sh' V' n' c' sl', TS T' → LI K a0 c mb oo sh' V' n' (j + 1) → c' ≤ cc + 4 → sl' ≤ sl + 740 → lQ l D cy zF z0 ext b Lx xs Ret 1053 ([(0, .ref b), (1, .ref (z0 + c)), (2, .ref (z0 + mb)), (3, .ref (z0 + oo)), (4, .int (nI (6 * j)))] ++ T') [] sh' V' n' c' sl') : lQ l D cy zF z0 ext b Lx xs Ret 417 ([(0, .ref b), (1, .ref (z0 + c)), (2, .ref (z0 + mb)), (3, .ref (z0 + oo)), (4, .int (nI (6 * j)))]) [] sh V n cc sl := by
  obtain ⟨E, R, S, HH, g, hL, hm, hM, ho, hJ⟩ := hI
  obtain ⟨m1, m2⟩ := id hm
  have hcl := hL.1
  unfold isCL at hcl
  have hKn := hL.Kn
  have hq1 : vp_in (nI (6 * j) + 1) Lx := by rw [show (nI (6 * j) + 1 : Int32) = nI (6 * j + 1) from by rw [show (1 : Int32) = nI 1 from rfl, nI_add]]; exact vp_in_nI (by omega) (by omega)
  have hq2 : vp_in (nI (6 * j) + 2) Lx := by rw [show (nI (6 * j) + 2 : Int32) = nI (6 * j + 2) from by rw [show (2 : Int32) = nI 2 from rfl, nI_add]]; exact vp_in_nI (by omega) (by omega)
  obtain ⟨k, x, S', HH', hkm, hJ', hsame, hC, hMP⟩ := tie_send (K := K) (c := c) (mb := mb) (S := S) hext hst hA hJ hj (u := (xs (nI (6 * j) + 1).toNatClampNeg)) (w := (xs (nI (6 * j) + 2).toNatClampNeg))
  refine fs_aload_n (pc2 := 418) (kl_at_5 rfl) rfl rfl rfl ?_
  refine fs_aload_n (pc2 := 419) (kl_at_5 rfl) rfl rfl rfl ?_
  refine fs_iload (pc2 := 421) (kl_at_5 rfl) rfl rfl rfl ?_
  refine fs_iconst (pc2 := 422) (kl_at_5 rfl) rfl rfl ?_
  refine fs_iadd (pc2 := 423) (kl_at_5 rfl) rfl rfl ?_
  refine lw_scr (pc2 := 424) (kl_at_5 rfl) rfl hq1 ?_
  refine fs_aload_n (pc2 := 425) (kl_at_5 rfl) rfl rfl rfl ?_
  refine fs_iload (pc2 := 427) (kl_at_5 rfl) rfl rfl rfl ?_
  refine fs_iconst (pc2 := 428) (kl_at_5 rfl) rfl rfl ?_
  refine fs_iadd (pc2 := 429) (kl_at_5 rfl) rfl rfl ?_
  refine lw_scr (pc2 := 430) (kl_at_5 rfl) rfl hq2 ?_
  refine fs_aload_n (pc2 := 431) (kl_at_5 rfl) rfl rfl rfl ?_
  refine lw_hlp (dc := 4) (ds := 740) (pc2 := 434) (kl_at_5 rfl) rfl kw_L_send (h_send hcl hkm (fun v sh' V' n' h => ⟨h.1, by rw [h.2.2.2.2 oo (by omega) (by omega)]; exact ho⟩) (hC sh V n E R hL)) rfl rfl (Nat.le_of_ble_eq_true rfl) rfl rfl hc hsl (fun v9 sh9 V9 n9 hp9 => ?_)
  obtain ⟨ea9, hp9⟩ := hp9
  cases ea9
  obtain ⟨E9, R9, g9, hL9, hm9, hM9, ho9, hv9⟩ := lw_aft (a := mkI x) e1 e2 e3 hL hm hM ho hsame hp9
  obtain ⟨m3, m4⟩ := id hm9
  refine fs_istore (pc2 := 436) (kl_at_5 rfl) rfl rfl (Nat.le_of_ble_eq_true rfl) ?_
  refine fs_aload_n (pc2 := 437) (kl_at_5 rfl) rfl rfl rfl ?_
  refine fs_aload_n (pc2 := 438) (kl_at_5 rfl) rfl rfl rfl ?_
  refine fs_iload (pc2 := 440) (kl_at_5 rfl) rfl rfl rfl ?_
  refine fs_iconst (pc2 := 441) (kl_at_5 rfl) rfl rfl ?_
  refine fs_iadd (pc2 := 442) (kl_at_5 rfl) rfl rfl ?_
  refine lw_scr (pc2 := 443) (kl_at_5 rfl) rfl hq1 ?_
  refine fs_aload_n (pc2 := 444) (kl_at_5 rfl) rfl rfl rfl ?_
  refine fs_iload (pc2 := 446) (kl_at_5 rfl) rfl rfl rfl ?_
  refine fs_iconst (pc2 := 447) (kl_at_5 rfl) rfl rfl ?_
  refine fs_iadd (pc2 := 448) (kl_at_5 rfl) rfl rfl ?_
  refine lw_scr (pc2 := 449) (kl_at_5 rfl) rfl hq2 ?_
  refine lw_callv (dc := 0) (ds := 0) (pc2 := 452) (kl_at_5 rfl) rfl rfl rfl ⟨rfl, rfl⟩ (Nat.le_of_ble_eq_true rfl) rfl rfl (by omega) (by omega) (fs_rcv rfl m3) (hMP _ _ _ hm9 hM9) (fun v8 sh8 V8 n8 hp8 => ?_)
  obtain ⟨ea8, eb8, ec8, hM8, hth, hO8⟩ := hp8
  rw [mk_if] at ea8
  cases ea8
  obtain rfl := eb8.symm
  obtain rfl := ec8.symm
  have hF := lw_fin e1 e2 e3 hL9 hm9 hM8 hO8 ho9 hJ'
  refine fs_istore (pc2 := 454) (kl_at_5 rfl) rfl rfl (Nat.le_of_ble_eq_true rfl) ?_
  refine fs_aload_n (pc2 := 455) (kl_at_5 rfl) rfl rfl rfl ?_
  refine lw_callv (dc := 0) (ds := 0) (pc2 := 458) (kl_at_5 rfl) rfl rfl rfl ⟨rfl, rfl⟩ (Nat.le_of_ble_eq_true rfl) rfl rfl (by omega) (by omega) (fs_rcv rfl m3) (m_thrown hm9) (fun v9 sh9 V9 n9 hp9 => ?_)
  obtain ⟨ea9, eb9, ec9, ed9⟩ := hp9
  cases ea9
  obtain rfl := eb9.symm
  obtain rfl := ec9.symm
  obtain rfl := ed9.symm
  rw [hth]
  refine fs_iload (pc2 := 460) (kl_at_5 rfl) rfl rfl rfl ?_
  refine fs_icmp_eq (pc2 := 463) (kl_at_5 rfl) rfl rfl (fun h460 => ?_) (fun h460 => absurd rfl h460)
  refine fs_iload (pc2 := 467) (kl_at_5 rfl) rfl rfl rfl ?_
  refine fs_if_ne (pc2 := 470) (kl_at_5 rfl) rfl rfl (fun h467 => ?_) (fun h467 => ?_)
  · refine fs_goto (kl_at_5 rfl) rfl ?_
    first | exact hN [(5, .int _)] _ _ _ _ _ (Or.inr (Or.inl ⟨_, rfl⟩)) hF (by omega) (by omega) | exact hN [(5, .int _), (6, .int _)] _ _ _ _ _ (Or.inr (Or.inr ⟨_, _, rfl⟩)) hF (by omega) (by omega) | exact hN [] _ _ _ _ _ (Or.inl rfl) hF (by omega) (by omega)
  · have hk0 : k = 0 := c_eq (a := k) (b := 0) h467 rfl rfl (by omega) (by omega)
    rw [if_pos hk0]
    refine fs_aload_n (pc2 := 471) (kl_at_5 rfl) rfl rfl rfl ?_
    refine fs_iconst (pc2 := 472) (kl_at_5 rfl) rfl rfl ?_
    refine fs_lald (pc2 := 473) (kl_at_5 rfl) rfl rfl ho9 (vp_in_nI (n := 0) (by decide) (by decide)) ?_
    refine fs_iload (pc2 := 475) (kl_at_5 rfl) rfl rfl rfl ?_
    refine fs_i2l (pc2 := 476) (kl_at_5 rfl) rfl rfl ?_
    refine fs_lcmp (pc2 := 477) (kl_at_5 rfl) rfl rfl ?_
    rw [hv9 hk0]
    refine fs_if_eq (pc2 := 480) (kl_at_5 rfl) rfl rfl (fun h477 => ?_) (fun h477 => absurd (lg_cmp_self _) h477)
    refine fs_goto (kl_at_5 rfl) rfl ?_
    first | exact hN [(5, .int _)] _ _ _ _ _ (Or.inr (Or.inl ⟨_, rfl⟩)) hF (by omega) (by omega) | exact hN [(5, .int _), (6, .int _)] _ _ _ _ _ (Or.inr (Or.inr ⟨_, _, rfl⟩)) hF (by omega) (by omega) | exact hN [] _ _ _ _ _ (Or.inl rfl) hF (by omega) (by omega)
set_option maxRecDepth 100000 in
set_option maxHeartbeats 4000000 in
theorem lc_send_1 {u5 : Int32} (hext : ev_HX l D cy zF ext) (hst : l.stackTraces = false) (hA : AlOK cy z0 a0 ext) (e1 : mb = c + 374) (e2 : oo = c + 420) (e3 : K = c + 421) (hI : LI K a0 c mb oo sh V n j) (hj : j < 512) (hx : 6 * j + 6 ≤ Lx) (hLx : Lx ≤ 3072) (hc : cc + 4 ≤ 601024) (hsl : sl + 740 ≤ 7293034) (hN : ∀ T' sh' V' n' c' sl', TS T' → LI K a0 c mb oo sh' V' n' (j + 1) → c' ≤ cc + 4 → sl' ≤ sl + 740 → lQ l D cy zF z0 ext b Lx xs Ret 1053 ([(0, .ref b), (1, .ref (z0 + c)), (2, .ref (z0 + mb)), (3, .ref (z0 + oo)), (4, .int (nI (6 * j)))] ++ T') [] sh' V' n' c' sl') : lQ l D cy zF z0 ext b Lx xs Ret 417 ([(0, .ref b), (1, .ref (z0 + c)), (2, .ref (z0 + mb)), (3, .ref (z0 + oo)), (4, .int (nI (6 * j))), (5, .int u5)]) [] sh V n cc sl := by
  obtain ⟨E, R, S, HH, g, hL, hm, hM, ho, hJ⟩ := hI
  obtain ⟨m1, m2⟩ := id hm
  have hcl := hL.1
  unfold isCL at hcl
  have hKn := hL.Kn
  have hq1 : vp_in (nI (6 * j) + 1) Lx := by rw [show (nI (6 * j) + 1 : Int32) = nI (6 * j + 1) from by rw [show (1 : Int32) = nI 1 from rfl, nI_add]]; exact vp_in_nI (by omega) (by omega)
  have hq2 : vp_in (nI (6 * j) + 2) Lx := by rw [show (nI (6 * j) + 2 : Int32) = nI (6 * j + 2) from by rw [show (2 : Int32) = nI 2 from rfl, nI_add]]; exact vp_in_nI (by omega) (by omega)
  obtain ⟨k, x, S', HH', hkm, hJ', hsame, hC, hMP⟩ := tie_send (K := K) (c := c) (mb := mb) (S := S) hext hst hA hJ hj (u := (xs (nI (6 * j) + 1).toNatClampNeg)) (w := (xs (nI (6 * j) + 2).toNatClampNeg))
  refine fs_aload_n (pc2 := 418) (kl_at_5 rfl) rfl rfl rfl ?_
  refine fs_aload_n (pc2 := 419) (kl_at_5 rfl) rfl rfl rfl ?_
  refine fs_iload (pc2 := 421) (kl_at_5 rfl) rfl rfl rfl ?_
  refine fs_iconst (pc2 := 422) (kl_at_5 rfl) rfl rfl ?_
  refine fs_iadd (pc2 := 423) (kl_at_5 rfl) rfl rfl ?_
  refine lw_scr (pc2 := 424) (kl_at_5 rfl) rfl hq1 ?_
  refine fs_aload_n (pc2 := 425) (kl_at_5 rfl) rfl rfl rfl ?_
  refine fs_iload (pc2 := 427) (kl_at_5 rfl) rfl rfl rfl ?_
  refine fs_iconst (pc2 := 428) (kl_at_5 rfl) rfl rfl ?_
  refine fs_iadd (pc2 := 429) (kl_at_5 rfl) rfl rfl ?_
  refine lw_scr (pc2 := 430) (kl_at_5 rfl) rfl hq2 ?_
  refine fs_aload_n (pc2 := 431) (kl_at_5 rfl) rfl rfl rfl ?_
  refine lw_hlp (dc := 4) (ds := 740) (pc2 := 434) (kl_at_5 rfl) rfl kw_L_send (h_send hcl hkm (fun v sh' V' n' h => ⟨h.1, by rw [h.2.2.2.2 oo (by omega) (by omega)]; exact ho⟩) (hC sh V n E R hL)) rfl rfl (Nat.le_of_ble_eq_true rfl) rfl rfl hc hsl (fun v9 sh9 V9 n9 hp9 => ?_)
  obtain ⟨ea9, hp9⟩ := hp9
  cases ea9
  obtain ⟨E9, R9, g9, hL9, hm9, hM9, ho9, hv9⟩ := lw_aft (a := mkI x) e1 e2 e3 hL hm hM ho hsame hp9
  obtain ⟨m3, m4⟩ := id hm9
  refine fs_istore (pc2 := 436) (kl_at_5 rfl) rfl rfl (Nat.le_of_ble_eq_true rfl) ?_
  refine fs_aload_n (pc2 := 437) (kl_at_5 rfl) rfl rfl rfl ?_
  refine fs_aload_n (pc2 := 438) (kl_at_5 rfl) rfl rfl rfl ?_
  refine fs_iload (pc2 := 440) (kl_at_5 rfl) rfl rfl rfl ?_
  refine fs_iconst (pc2 := 441) (kl_at_5 rfl) rfl rfl ?_
  refine fs_iadd (pc2 := 442) (kl_at_5 rfl) rfl rfl ?_
  refine lw_scr (pc2 := 443) (kl_at_5 rfl) rfl hq1 ?_
  refine fs_aload_n (pc2 := 444) (kl_at_5 rfl) rfl rfl rfl ?_
  refine fs_iload (pc2 := 446) (kl_at_5 rfl) rfl rfl rfl ?_
  refine fs_iconst (pc2 := 447) (kl_at_5 rfl) rfl rfl ?_
  refine fs_iadd (pc2 := 448) (kl_at_5 rfl) rfl rfl ?_
  refine lw_scr (pc2 := 449) (kl_at_5 rfl) rfl hq2 ?_
  refine lw_callv (dc := 0) (ds := 0) (pc2 := 452) (kl_at_5 rfl) rfl rfl rfl ⟨rfl, rfl⟩ (Nat.le_of_ble_eq_true rfl) rfl rfl (by omega) (by omega) (fs_rcv rfl m3) (hMP _ _ _ hm9 hM9) (fun v8 sh8 V8 n8 hp8 => ?_)
  obtain ⟨ea8, eb8, ec8, hM8, hth, hO8⟩ := hp8
  rw [mk_if] at ea8
  cases ea8
  obtain rfl := eb8.symm
  obtain rfl := ec8.symm
  have hF := lw_fin e1 e2 e3 hL9 hm9 hM8 hO8 ho9 hJ'
  refine fs_istore (pc2 := 454) (kl_at_5 rfl) rfl rfl (Nat.le_of_ble_eq_true rfl) ?_
  refine fs_aload_n (pc2 := 455) (kl_at_5 rfl) rfl rfl rfl ?_
  refine lw_callv (dc := 0) (ds := 0) (pc2 := 458) (kl_at_5 rfl) rfl rfl rfl ⟨rfl, rfl⟩ (Nat.le_of_ble_eq_true rfl) rfl rfl (by omega) (by omega) (fs_rcv rfl m3) (m_thrown hm9) (fun v9 sh9 V9 n9 hp9 => ?_)
  obtain ⟨ea9, eb9, ec9, ed9⟩ := hp9
  cases ea9
  obtain rfl := eb9.symm
  obtain rfl := ec9.symm
  obtain rfl := ed9.symm
  rw [hth]
  refine fs_iload (pc2 := 460) (kl_at_5 rfl) rfl rfl rfl ?_
  refine fs_icmp_eq (pc2 := 463) (kl_at_5 rfl) rfl rfl (fun h460 => ?_) (fun h460 => absurd rfl h460)
  refine fs_iload (pc2 := 467) (kl_at_5 rfl) rfl rfl rfl ?_
  refine fs_if_ne (pc2 := 470) (kl_at_5 rfl) rfl rfl (fun h467 => ?_) (fun h467 => ?_)
  · refine fs_goto (kl_at_5 rfl) rfl ?_
    first | exact hN [(5, .int _)] _ _ _ _ _ (Or.inr (Or.inl ⟨_, rfl⟩)) hF (by omega) (by omega) | exact hN [(5, .int _), (6, .int _)] _ _ _ _ _ (Or.inr (Or.inr ⟨_, _, rfl⟩)) hF (by omega) (by omega) | exact hN [] _ _ _ _ _ (Or.inl rfl) hF (by omega) (by omega)
  · have hk0 : k = 0 := c_eq (a := k) (b := 0) h467 rfl rfl (by omega) (by omega)
    rw [if_pos hk0]
    refine fs_aload_n (pc2 := 471) (kl_at_5 rfl) rfl rfl rfl ?_
    refine fs_iconst (pc2 := 472) (kl_at_5 rfl) rfl rfl ?_
    refine fs_lald (pc2 := 473) (kl_at_5 rfl) rfl rfl ho9 (vp_in_nI (n := 0) (by decide) (by decide)) ?_
    refine fs_iload (pc2 := 475) (kl_at_5 rfl) rfl rfl rfl ?_
    refine fs_i2l (pc2 := 476) (kl_at_5 rfl) rfl rfl ?_
    refine fs_lcmp (pc2 := 477) (kl_at_5 rfl) rfl rfl ?_
    rw [hv9 hk0]
    refine fs_if_eq (pc2 := 480) (kl_at_5 rfl) rfl rfl (fun h477 => ?_) (fun h477 => absurd (lg_cmp_self _) h477)
    refine fs_goto (kl_at_5 rfl) rfl ?_
    first | exact hN [(5, .int _)] _ _ _ _ _ (Or.inr (Or.inl ⟨_, rfl⟩)) hF (by omega) (by omega) | exact hN [(5, .int _), (6, .int _)] _ _ _ _ _ (Or.inr (Or.inr ⟨_, _, rfl⟩)) hF (by omega) (by omega) | exact hN [] _ _ _ _ _ (Or.inl rfl) hF (by omega) (by omega)
set_option maxRecDepth 100000 in
set_option maxHeartbeats 4000000 in
theorem lc_send_2 {u5 u6 : Int32} (hext : ev_HX l D cy zF ext) (hst : l.stackTraces = false) (hA : AlOK cy z0 a0 ext) (e1 : mb = c + 374) (e2 : oo = c + 420) (e3 : K = c + 421) (hI : LI K a0 c mb oo sh V n j) (hj : j < 512) (hx : 6 * j + 6 ≤ Lx) (hLx : Lx ≤ 3072) (hc : cc + 4 ≤ 601024) (hsl : sl + 740 ≤ 7293034) (hN : ∀ T' sh' V' n' c' sl', TS T' → LI K a0 c mb oo sh' V' n' (j + 1) → c' ≤ cc + 4 → sl' ≤ sl + 740 → lQ l D cy zF z0 ext b Lx xs Ret 1053 ([(0, .ref b), (1, .ref (z0 + c)), (2, .ref (z0 + mb)), (3, .ref (z0 + oo)), (4, .int (nI (6 * j)))] ++ T') [] sh' V' n' c' sl') : lQ l D cy zF z0 ext b Lx xs Ret 417 ([(0, .ref b), (1, .ref (z0 + c)), (2, .ref (z0 + mb)), (3, .ref (z0 + oo)), (4, .int (nI (6 * j))), (5, .int u5), (6, .int u6)]) [] sh V n cc sl := by
  obtain ⟨E, R, S, HH, g, hL, hm, hM, ho, hJ⟩ := hI
  obtain ⟨m1, m2⟩ := id hm
  have hcl := hL.1
  unfold isCL at hcl
  have hKn := hL.Kn
  have hq1 : vp_in (nI (6 * j) + 1) Lx := by rw [show (nI (6 * j) + 1 : Int32) = nI (6 * j + 1) from by rw [show (1 : Int32) = nI 1 from rfl, nI_add]]; exact vp_in_nI (by omega) (by omega)
  have hq2 : vp_in (nI (6 * j) + 2) Lx := by rw [show (nI (6 * j) + 2 : Int32) = nI (6 * j + 2) from by rw [show (2 : Int32) = nI 2 from rfl, nI_add]]; exact vp_in_nI (by omega) (by omega)
  obtain ⟨k, x, S', HH', hkm, hJ', hsame, hC, hMP⟩ := tie_send (K := K) (c := c) (mb := mb) (S := S) hext hst hA hJ hj (u := (xs (nI (6 * j) + 1).toNatClampNeg)) (w := (xs (nI (6 * j) + 2).toNatClampNeg))
  refine fs_aload_n (pc2 := 418) (kl_at_5 rfl) rfl rfl rfl ?_
  refine fs_aload_n (pc2 := 419) (kl_at_5 rfl) rfl rfl rfl ?_
  refine fs_iload (pc2 := 421) (kl_at_5 rfl) rfl rfl rfl ?_
  refine fs_iconst (pc2 := 422) (kl_at_5 rfl) rfl rfl ?_
  refine fs_iadd (pc2 := 423) (kl_at_5 rfl) rfl rfl ?_
  refine lw_scr (pc2 := 424) (kl_at_5 rfl) rfl hq1 ?_
  refine fs_aload_n (pc2 := 425) (kl_at_5 rfl) rfl rfl rfl ?_
  refine fs_iload (pc2 := 427) (kl_at_5 rfl) rfl rfl rfl ?_
  refine fs_iconst (pc2 := 428) (kl_at_5 rfl) rfl rfl ?_
  refine fs_iadd (pc2 := 429) (kl_at_5 rfl) rfl rfl ?_
  refine lw_scr (pc2 := 430) (kl_at_5 rfl) rfl hq2 ?_
  refine fs_aload_n (pc2 := 431) (kl_at_5 rfl) rfl rfl rfl ?_
  refine lw_hlp (dc := 4) (ds := 740) (pc2 := 434) (kl_at_5 rfl) rfl kw_L_send (h_send hcl hkm (fun v sh' V' n' h => ⟨h.1, by rw [h.2.2.2.2 oo (by omega) (by omega)]; exact ho⟩) (hC sh V n E R hL)) rfl rfl (Nat.le_of_ble_eq_true rfl) rfl rfl hc hsl (fun v9 sh9 V9 n9 hp9 => ?_)
  obtain ⟨ea9, hp9⟩ := hp9
  cases ea9
  obtain ⟨E9, R9, g9, hL9, hm9, hM9, ho9, hv9⟩ := lw_aft (a := mkI x) e1 e2 e3 hL hm hM ho hsame hp9
  obtain ⟨m3, m4⟩ := id hm9
  refine fs_istore (pc2 := 436) (kl_at_5 rfl) rfl rfl (Nat.le_of_ble_eq_true rfl) ?_
  refine fs_aload_n (pc2 := 437) (kl_at_5 rfl) rfl rfl rfl ?_
  refine fs_aload_n (pc2 := 438) (kl_at_5 rfl) rfl rfl rfl ?_
  refine fs_iload (pc2 := 440) (kl_at_5 rfl) rfl rfl rfl ?_
  refine fs_iconst (pc2 := 441) (kl_at_5 rfl) rfl rfl ?_
  refine fs_iadd (pc2 := 442) (kl_at_5 rfl) rfl rfl ?_
  refine lw_scr (pc2 := 443) (kl_at_5 rfl) rfl hq1 ?_
  refine fs_aload_n (pc2 := 444) (kl_at_5 rfl) rfl rfl rfl ?_
  refine fs_iload (pc2 := 446) (kl_at_5 rfl) rfl rfl rfl ?_
  refine fs_iconst (pc2 := 447) (kl_at_5 rfl) rfl rfl ?_
  refine fs_iadd (pc2 := 448) (kl_at_5 rfl) rfl rfl ?_
  refine lw_scr (pc2 := 449) (kl_at_5 rfl) rfl hq2 ?_
  refine lw_callv (dc := 0) (ds := 0) (pc2 := 452) (kl_at_5 rfl) rfl rfl rfl ⟨rfl, rfl⟩ (Nat.le_of_ble_eq_true rfl) rfl rfl (by omega) (by omega) (fs_rcv rfl m3) (hMP _ _ _ hm9 hM9) (fun v8 sh8 V8 n8 hp8 => ?_)
  obtain ⟨ea8, eb8, ec8, hM8, hth, hO8⟩ := hp8
  rw [mk_if] at ea8
  cases ea8
  obtain rfl := eb8.symm
  obtain rfl := ec8.symm
  have hF := lw_fin e1 e2 e3 hL9 hm9 hM8 hO8 ho9 hJ'
  refine fs_istore (pc2 := 454) (kl_at_5 rfl) rfl rfl (Nat.le_of_ble_eq_true rfl) ?_
  refine fs_aload_n (pc2 := 455) (kl_at_5 rfl) rfl rfl rfl ?_
  refine lw_callv (dc := 0) (ds := 0) (pc2 := 458) (kl_at_5 rfl) rfl rfl rfl ⟨rfl, rfl⟩ (Nat.le_of_ble_eq_true rfl) rfl rfl (by omega) (by omega) (fs_rcv rfl m3) (m_thrown hm9) (fun v9 sh9 V9 n9 hp9 => ?_)
  obtain ⟨ea9, eb9, ec9, ed9⟩ := hp9
  cases ea9
  obtain rfl := eb9.symm
  obtain rfl := ec9.symm
  obtain rfl := ed9.symm
  rw [hth]
  refine fs_iload (pc2 := 460) (kl_at_5 rfl) rfl rfl rfl ?_
  refine fs_icmp_eq (pc2 := 463) (kl_at_5 rfl) rfl rfl (fun h460 => ?_) (fun h460 => absurd rfl h460)
  refine fs_iload (pc2 := 467) (kl_at_5 rfl) rfl rfl rfl ?_
  refine fs_if_ne (pc2 := 470) (kl_at_5 rfl) rfl rfl (fun h467 => ?_) (fun h467 => ?_)
  · refine fs_goto (kl_at_5 rfl) rfl ?_
    first | exact hN [(5, .int _)] _ _ _ _ _ (Or.inr (Or.inl ⟨_, rfl⟩)) hF (by omega) (by omega) | exact hN [(5, .int _), (6, .int _)] _ _ _ _ _ (Or.inr (Or.inr ⟨_, _, rfl⟩)) hF (by omega) (by omega) | exact hN [] _ _ _ _ _ (Or.inl rfl) hF (by omega) (by omega)
  · have hk0 : k = 0 := c_eq (a := k) (b := 0) h467 rfl rfl (by omega) (by omega)
    rw [if_pos hk0]
    refine fs_aload_n (pc2 := 471) (kl_at_5 rfl) rfl rfl rfl ?_
    refine fs_iconst (pc2 := 472) (kl_at_5 rfl) rfl rfl ?_
    refine fs_lald (pc2 := 473) (kl_at_5 rfl) rfl rfl ho9 (vp_in_nI (n := 0) (by decide) (by decide)) ?_
    refine fs_iload (pc2 := 475) (kl_at_5 rfl) rfl rfl rfl ?_
    refine fs_i2l (pc2 := 476) (kl_at_5 rfl) rfl rfl ?_
    refine fs_lcmp (pc2 := 477) (kl_at_5 rfl) rfl rfl ?_
    rw [hv9 hk0]
    refine fs_if_eq (pc2 := 480) (kl_at_5 rfl) rfl rfl (fun h477 => ?_) (fun h477 => absurd (lg_cmp_self _) h477)
    refine fs_goto (kl_at_5 rfl) rfl ?_
    first | exact hN [(5, .int _)] _ _ _ _ _ (Or.inr (Or.inl ⟨_, rfl⟩)) hF (by omega) (by omega) | exact hN [(5, .int _), (6, .int _)] _ _ _ _ _ (Or.inr (Or.inr ⟨_, _, rfl⟩)) hF (by omega) (by omega) | exact hN [] _ _ _ _ _ (Or.inl rfl) hF (by omega) (by omega)
set_option maxRecDepth 100000 in
set_option maxHeartbeats 4000000 in
theorem lc_grant_0 (hext : ev_HX l D cy zF ext) (hst : l.stackTraces = false) (hA : AlOK cy z0 a0 ext) (e1 : mb = c + 374) (e2 : oo = c + 420) (e3 : K = c + 421) (hI : LI K a0 c mb oo sh V n j) (hj : j < 512) (hx : 6 * j + 6 ≤ Lx) (hLx : Lx ≤ 3072) (hc : cc + 4 ≤ 601024) (hsl : sl + 740 ≤ 7293034) (hN : ∀ T' sh' V' n' c' sl', TS T' → LI K a0 c mb oo sh' V' n' (j + 1) → c' ≤ cc + 4 → sl' ≤ sl + 740 → lQ l D cy zF z0 ext b Lx xs Ret 1053 ([(0, .ref b), (1, .ref (z0 + c)), (2, .ref (z0 + mb)), (3, .ref (z0 + oo)), (4, .int (nI (6 * j)))] ++ T') [] sh' V' n' c' sl') : lQ l D cy zF z0 ext b Lx xs Ret 485 ([(0, .ref b), (1, .ref (z0 + c)), (2, .ref (z0 + mb)), (3, .ref (z0 + oo)), (4, .int (nI (6 * j)))]) [] sh V n cc sl := by
  obtain ⟨E, R, S, HH, g, hL, hm, hM, ho, hJ⟩ := hI
  obtain ⟨m1, m2⟩ := id hm
  have hcl := hL.1
  unfold isCL at hcl
  have hKn := hL.Kn
  have hq1 : vp_in (nI (6 * j) + 1) Lx := by rw [show (nI (6 * j) + 1 : Int32) = nI (6 * j + 1) from by rw [show (1 : Int32) = nI 1 from rfl, nI_add]]; exact vp_in_nI (by omega) (by omega)
  have hq2 : vp_in (nI (6 * j) + 2) Lx := by rw [show (nI (6 * j) + 2 : Int32) = nI (6 * j + 2) from by rw [show (2 : Int32) = nI 2 from rfl, nI_add]]; exact vp_in_nI (by omega) (by omega)
  have hq3 : vp_in (nI (6 * j) + 3) Lx := by rw [show (nI (6 * j) + 3 : Int32) = nI (6 * j + 3) from by rw [show (3 : Int32) = nI 3 from rfl, nI_add]]; exact vp_in_nI (by omega) (by omega)
  obtain ⟨k, x, S', HH', hkm, hJ', hsame, hC, hMP⟩ := tie_grant (K := K) (c := c) (mb := mb) (S := S) hext hst hA hJ hj (u := (xs (nI (6 * j) + 1).toNatClampNeg)) (w := (xs (nI (6 * j) + 2).toNatClampNeg)) (x := (xs (nI (6 * j) + 3).toNatClampNeg))
  refine fs_aload_n (pc2 := 486) (kl_at_6 rfl) rfl rfl rfl ?_
  refine fs_aload_n (pc2 := 487) (kl_at_6 rfl) rfl rfl rfl ?_
  refine fs_iload (pc2 := 489) (kl_at_6 rfl) rfl rfl rfl ?_
  refine fs_iconst (pc2 := 490) (kl_at_6 rfl) rfl rfl ?_
  refine fs_iadd (pc2 := 491) (kl_at_6 rfl) rfl rfl ?_
  refine lw_scr (pc2 := 492) (kl_at_6 rfl) rfl hq1 ?_
  refine fs_aload_n (pc2 := 493) (kl_at_6 rfl) rfl rfl rfl ?_
  refine fs_iload (pc2 := 495) (kl_at_6 rfl) rfl rfl rfl ?_
  refine fs_iconst (pc2 := 496) (kl_at_6 rfl) rfl rfl ?_
  refine fs_iadd (pc2 := 497) (kl_at_6 rfl) rfl rfl ?_
  refine lw_scr (pc2 := 498) (kl_at_6 rfl) rfl hq2 ?_
  refine fs_aload_n (pc2 := 499) (kl_at_6 rfl) rfl rfl rfl ?_
  refine fs_iload (pc2 := 501) (kl_at_6 rfl) rfl rfl rfl ?_
  refine fs_iconst (pc2 := 502) (kl_at_6 rfl) rfl rfl ?_
  refine fs_iadd (pc2 := 503) (kl_at_6 rfl) rfl rfl ?_
  refine lw_scr (pc2 := 504) (kl_at_6 rfl) rfl hq3 ?_
  refine fs_aload_n (pc2 := 505) (kl_at_6 rfl) rfl rfl rfl ?_
  refine lw_hlp (dc := 4) (ds := 740) (pc2 := 508) (kl_at_6 rfl) rfl kw_L_grant (h_grant hcl hkm (fun v sh' V' n' h => ⟨h.1, by rw [h.2.2.2.2 oo (by omega) (by omega)]; exact ho⟩) (hC sh V n E R hL)) rfl rfl (Nat.le_of_ble_eq_true rfl) rfl rfl hc hsl (fun v9 sh9 V9 n9 hp9 => ?_)
  obtain ⟨ea9, hp9⟩ := hp9
  cases ea9
  obtain ⟨E9, R9, g9, hL9, hm9, hM9, ho9, hv9⟩ := lw_aft (a := mkI x) e1 e2 e3 hL hm hM ho hsame hp9
  obtain ⟨m3, m4⟩ := id hm9
  refine fs_istore (pc2 := 510) (kl_at_6 rfl) rfl rfl (Nat.le_of_ble_eq_true rfl) ?_
  refine fs_aload_n (pc2 := 511) (kl_at_6 rfl) rfl rfl rfl ?_
  refine fs_aload_n (pc2 := 512) (kl_at_6 rfl) rfl rfl rfl ?_
  refine fs_iload (pc2 := 514) (kl_at_6 rfl) rfl rfl rfl ?_
  refine fs_iconst (pc2 := 515) (kl_at_6 rfl) rfl rfl ?_
  refine fs_iadd (pc2 := 516) (kl_at_6 rfl) rfl rfl ?_
  refine lw_scr (pc2 := 517) (kl_at_6 rfl) rfl hq1 ?_
  refine fs_aload_n (pc2 := 518) (kl_at_6 rfl) rfl rfl rfl ?_
  refine fs_iload (pc2 := 520) (kl_at_6 rfl) rfl rfl rfl ?_
  refine fs_iconst (pc2 := 521) (kl_at_6 rfl) rfl rfl ?_
  refine fs_iadd (pc2 := 522) (kl_at_6 rfl) rfl rfl ?_
  refine lw_scr (pc2 := 523) (kl_at_6 rfl) rfl hq2 ?_
  refine fs_aload_n (pc2 := 524) (kl_at_6 rfl) rfl rfl rfl ?_
  refine fs_iload (pc2 := 526) (kl_at_6 rfl) rfl rfl rfl ?_
  refine fs_iconst (pc2 := 527) (kl_at_6 rfl) rfl rfl ?_
  refine fs_iadd (pc2 := 528) (kl_at_6 rfl) rfl rfl ?_
  refine lw_scr (pc2 := 529) (kl_at_6 rfl) rfl hq3 ?_
  refine lw_callv (dc := 0) (ds := 0) (pc2 := 532) (kl_at_6 rfl) rfl rfl rfl ⟨rfl, rfl⟩ (Nat.le_of_ble_eq_true rfl) rfl rfl (by omega) (by omega) (fs_rcv rfl m3) (hMP _ _ _ hm9 hM9) (fun v8 sh8 V8 n8 hp8 => ?_)
  obtain ⟨ea8, eb8, ec8, hM8, hth, hO8⟩ := hp8
  rw [mk_if] at ea8
  cases ea8
  obtain rfl := eb8.symm
  obtain rfl := ec8.symm
  have hF := lw_fin e1 e2 e3 hL9 hm9 hM8 hO8 ho9 hJ'
  refine fs_istore (pc2 := 534) (kl_at_6 rfl) rfl rfl (Nat.le_of_ble_eq_true rfl) ?_
  refine fs_aload_n (pc2 := 535) (kl_at_6 rfl) rfl rfl rfl ?_
  refine lw_callv (dc := 0) (ds := 0) (pc2 := 538) (kl_at_6 rfl) rfl rfl rfl ⟨rfl, rfl⟩ (Nat.le_of_ble_eq_true rfl) rfl rfl (by omega) (by omega) (fs_rcv rfl m3) (m_thrown hm9) (fun v9 sh9 V9 n9 hp9 => ?_)
  obtain ⟨ea9, eb9, ec9, ed9⟩ := hp9
  cases ea9
  obtain rfl := eb9.symm
  obtain rfl := ec9.symm
  obtain rfl := ed9.symm
  rw [hth]
  refine fs_iload (pc2 := 540) (kl_at_6 rfl) rfl rfl rfl ?_
  refine fs_icmp_eq (pc2 := 543) (kl_at_6 rfl) rfl rfl (fun h540 => ?_) (fun h540 => absurd rfl h540)
  refine fs_iload (pc2 := 547) (kl_at_6 rfl) rfl rfl rfl ?_
  refine fs_if_ne (pc2 := 550) (kl_at_6 rfl) rfl rfl (fun h547 => ?_) (fun h547 => ?_)
  · refine fs_goto (kl_at_6 rfl) rfl ?_
    first | exact hN [(5, .int _)] _ _ _ _ _ (Or.inr (Or.inl ⟨_, rfl⟩)) hF (by omega) (by omega) | exact hN [(5, .int _), (6, .int _)] _ _ _ _ _ (Or.inr (Or.inr ⟨_, _, rfl⟩)) hF (by omega) (by omega) | exact hN [] _ _ _ _ _ (Or.inl rfl) hF (by omega) (by omega)
  · have hk0 : k = 0 := c_eq (a := k) (b := 0) h547 rfl rfl (by omega) (by omega)
    rw [if_pos hk0]
    refine fs_aload_n (pc2 := 551) (kl_at_6 rfl) rfl rfl rfl ?_
    refine fs_iconst (pc2 := 552) (kl_at_6 rfl) rfl rfl ?_
    refine fs_lald (pc2 := 553) (kl_at_6 rfl) rfl rfl ho9 (vp_in_nI (n := 0) (by decide) (by decide)) ?_
    refine fs_iload (pc2 := 555) (kl_at_6 rfl) rfl rfl rfl ?_
    refine fs_i2l (pc2 := 556) (kl_at_6 rfl) rfl rfl ?_
    refine fs_lcmp (pc2 := 557) (kl_at_6 rfl) rfl rfl ?_
    rw [hv9 hk0]
    refine fs_if_eq (pc2 := 560) (kl_at_6 rfl) rfl rfl (fun h557 => ?_) (fun h557 => absurd (lg_cmp_self _) h557)
    refine fs_goto (kl_at_6 rfl) rfl ?_
    first | exact hN [(5, .int _)] _ _ _ _ _ (Or.inr (Or.inl ⟨_, rfl⟩)) hF (by omega) (by omega) | exact hN [(5, .int _), (6, .int _)] _ _ _ _ _ (Or.inr (Or.inr ⟨_, _, rfl⟩)) hF (by omega) (by omega) | exact hN [] _ _ _ _ _ (Or.inl rfl) hF (by omega) (by omega)
set_option maxRecDepth 100000 in
set_option maxHeartbeats 4000000 in
theorem lc_grant_1 {u5 : Int32} (hext : ev_HX l D cy zF ext) (hst : l.stackTraces = false) (hA : AlOK cy z0 a0 ext) (e1 : mb = c + 374) (e2 : oo = c + 420) (e3 : K = c + 421) (hI : LI K a0 c mb oo sh V n j) (hj : j < 512) (hx : 6 * j + 6 ≤ Lx) (hLx : Lx ≤ 3072) (hc : cc + 4 ≤ 601024) (hsl : sl + 740 ≤ 7293034) (hN : ∀ T' sh' V' n' c' sl', TS T' → LI K a0 c mb oo sh' V' n' (j + 1) → c' ≤ cc + 4 → sl' ≤ sl + 740 → lQ l D cy zF z0 ext b Lx xs Ret 1053 ([(0, .ref b), (1, .ref (z0 + c)), (2, .ref (z0 + mb)), (3, .ref (z0 + oo)), (4, .int (nI (6 * j)))] ++ T') [] sh' V' n' c' sl') : lQ l D cy zF z0 ext b Lx xs Ret 485 ([(0, .ref b), (1, .ref (z0 + c)), (2, .ref (z0 + mb)), (3, .ref (z0 + oo)), (4, .int (nI (6 * j))), (5, .int u5)]) [] sh V n cc sl := by
  obtain ⟨E, R, S, HH, g, hL, hm, hM, ho, hJ⟩ := hI
  obtain ⟨m1, m2⟩ := id hm
  have hcl := hL.1
  unfold isCL at hcl
  have hKn := hL.Kn
  have hq1 : vp_in (nI (6 * j) + 1) Lx := by rw [show (nI (6 * j) + 1 : Int32) = nI (6 * j + 1) from by rw [show (1 : Int32) = nI 1 from rfl, nI_add]]; exact vp_in_nI (by omega) (by omega)
  have hq2 : vp_in (nI (6 * j) + 2) Lx := by rw [show (nI (6 * j) + 2 : Int32) = nI (6 * j + 2) from by rw [show (2 : Int32) = nI 2 from rfl, nI_add]]; exact vp_in_nI (by omega) (by omega)
  have hq3 : vp_in (nI (6 * j) + 3) Lx := by rw [show (nI (6 * j) + 3 : Int32) = nI (6 * j + 3) from by rw [show (3 : Int32) = nI 3 from rfl, nI_add]]; exact vp_in_nI (by omega) (by omega)
  obtain ⟨k, x, S', HH', hkm, hJ', hsame, hC, hMP⟩ := tie_grant (K := K) (c := c) (mb := mb) (S := S) hext hst hA hJ hj (u := (xs (nI (6 * j) + 1).toNatClampNeg)) (w := (xs (nI (6 * j) + 2).toNatClampNeg)) (x := (xs (nI (6 * j) + 3).toNatClampNeg))
  refine fs_aload_n (pc2 := 486) (kl_at_6 rfl) rfl rfl rfl ?_
  refine fs_aload_n (pc2 := 487) (kl_at_6 rfl) rfl rfl rfl ?_
  refine fs_iload (pc2 := 489) (kl_at_6 rfl) rfl rfl rfl ?_
  refine fs_iconst (pc2 := 490) (kl_at_6 rfl) rfl rfl ?_
  refine fs_iadd (pc2 := 491) (kl_at_6 rfl) rfl rfl ?_
  refine lw_scr (pc2 := 492) (kl_at_6 rfl) rfl hq1 ?_
  refine fs_aload_n (pc2 := 493) (kl_at_6 rfl) rfl rfl rfl ?_
  refine fs_iload (pc2 := 495) (kl_at_6 rfl) rfl rfl rfl ?_
  refine fs_iconst (pc2 := 496) (kl_at_6 rfl) rfl rfl ?_
  refine fs_iadd (pc2 := 497) (kl_at_6 rfl) rfl rfl ?_
  refine lw_scr (pc2 := 498) (kl_at_6 rfl) rfl hq2 ?_
  refine fs_aload_n (pc2 := 499) (kl_at_6 rfl) rfl rfl rfl ?_
  refine fs_iload (pc2 := 501) (kl_at_6 rfl) rfl rfl rfl ?_
  refine fs_iconst (pc2 := 502) (kl_at_6 rfl) rfl rfl ?_
  refine fs_iadd (pc2 := 503) (kl_at_6 rfl) rfl rfl ?_
  refine lw_scr (pc2 := 504) (kl_at_6 rfl) rfl hq3 ?_
  refine fs_aload_n (pc2 := 505) (kl_at_6 rfl) rfl rfl rfl ?_
  refine lw_hlp (dc := 4) (ds := 740) (pc2 := 508) (kl_at_6 rfl) rfl kw_L_grant (h_grant hcl hkm (fun v sh' V' n' h => ⟨h.1, by rw [h.2.2.2.2 oo (by omega) (by omega)]; exact ho⟩) (hC sh V n E R hL)) rfl rfl (Nat.le_of_ble_eq_true rfl) rfl rfl hc hsl (fun v9 sh9 V9 n9 hp9 => ?_)
  obtain ⟨ea9, hp9⟩ := hp9
  cases ea9
  obtain ⟨E9, R9, g9, hL9, hm9, hM9, ho9, hv9⟩ := lw_aft (a := mkI x) e1 e2 e3 hL hm hM ho hsame hp9
  obtain ⟨m3, m4⟩ := id hm9
  refine fs_istore (pc2 := 510) (kl_at_6 rfl) rfl rfl (Nat.le_of_ble_eq_true rfl) ?_
  refine fs_aload_n (pc2 := 511) (kl_at_6 rfl) rfl rfl rfl ?_
  refine fs_aload_n (pc2 := 512) (kl_at_6 rfl) rfl rfl rfl ?_
  refine fs_iload (pc2 := 514) (kl_at_6 rfl) rfl rfl rfl ?_
  refine fs_iconst (pc2 := 515) (kl_at_6 rfl) rfl rfl ?_
  refine fs_iadd (pc2 := 516) (kl_at_6 rfl) rfl rfl ?_
  refine lw_scr (pc2 := 517) (kl_at_6 rfl) rfl hq1 ?_
  refine fs_aload_n (pc2 := 518) (kl_at_6 rfl) rfl rfl rfl ?_
  refine fs_iload (pc2 := 520) (kl_at_6 rfl) rfl rfl rfl ?_
  refine fs_iconst (pc2 := 521) (kl_at_6 rfl) rfl rfl ?_
  refine fs_iadd (pc2 := 522) (kl_at_6 rfl) rfl rfl ?_
  refine lw_scr (pc2 := 523) (kl_at_6 rfl) rfl hq2 ?_
  refine fs_aload_n (pc2 := 524) (kl_at_6 rfl) rfl rfl rfl ?_
  refine fs_iload (pc2 := 526) (kl_at_6 rfl) rfl rfl rfl ?_
  refine fs_iconst (pc2 := 527) (kl_at_6 rfl) rfl rfl ?_
  refine fs_iadd (pc2 := 528) (kl_at_6 rfl) rfl rfl ?_
  refine lw_scr (pc2 := 529) (kl_at_6 rfl) rfl hq3 ?_
  refine lw_callv (dc := 0) (ds := 0) (pc2 := 532) (kl_at_6 rfl) rfl rfl rfl ⟨rfl, rfl⟩ (Nat.le_of_ble_eq_true rfl) rfl rfl (by omega) (by omega) (fs_rcv rfl m3) (hMP _ _ _ hm9 hM9) (fun v8 sh8 V8 n8 hp8 => ?_)
  obtain ⟨ea8, eb8, ec8, hM8, hth, hO8⟩ := hp8
  rw [mk_if] at ea8
  cases ea8
  obtain rfl := eb8.symm
  obtain rfl := ec8.symm
  have hF := lw_fin e1 e2 e3 hL9 hm9 hM8 hO8 ho9 hJ'
  refine fs_istore (pc2 := 534) (kl_at_6 rfl) rfl rfl (Nat.le_of_ble_eq_true rfl) ?_
  refine fs_aload_n (pc2 := 535) (kl_at_6 rfl) rfl rfl rfl ?_
  refine lw_callv (dc := 0) (ds := 0) (pc2 := 538) (kl_at_6 rfl) rfl rfl rfl ⟨rfl, rfl⟩ (Nat.le_of_ble_eq_true rfl) rfl rfl (by omega) (by omega) (fs_rcv rfl m3) (m_thrown hm9) (fun v9 sh9 V9 n9 hp9 => ?_)
  obtain ⟨ea9, eb9, ec9, ed9⟩ := hp9
  cases ea9
  obtain rfl := eb9.symm
  obtain rfl := ec9.symm
  obtain rfl := ed9.symm
  rw [hth]
  refine fs_iload (pc2 := 540) (kl_at_6 rfl) rfl rfl rfl ?_
  refine fs_icmp_eq (pc2 := 543) (kl_at_6 rfl) rfl rfl (fun h540 => ?_) (fun h540 => absurd rfl h540)
  refine fs_iload (pc2 := 547) (kl_at_6 rfl) rfl rfl rfl ?_
  refine fs_if_ne (pc2 := 550) (kl_at_6 rfl) rfl rfl (fun h547 => ?_) (fun h547 => ?_)
  · refine fs_goto (kl_at_6 rfl) rfl ?_
    first | exact hN [(5, .int _)] _ _ _ _ _ (Or.inr (Or.inl ⟨_, rfl⟩)) hF (by omega) (by omega) | exact hN [(5, .int _), (6, .int _)] _ _ _ _ _ (Or.inr (Or.inr ⟨_, _, rfl⟩)) hF (by omega) (by omega) | exact hN [] _ _ _ _ _ (Or.inl rfl) hF (by omega) (by omega)
  · have hk0 : k = 0 := c_eq (a := k) (b := 0) h547 rfl rfl (by omega) (by omega)
    rw [if_pos hk0]
    refine fs_aload_n (pc2 := 551) (kl_at_6 rfl) rfl rfl rfl ?_
    refine fs_iconst (pc2 := 552) (kl_at_6 rfl) rfl rfl ?_
    refine fs_lald (pc2 := 553) (kl_at_6 rfl) rfl rfl ho9 (vp_in_nI (n := 0) (by decide) (by decide)) ?_
    refine fs_iload (pc2 := 555) (kl_at_6 rfl) rfl rfl rfl ?_
    refine fs_i2l (pc2 := 556) (kl_at_6 rfl) rfl rfl ?_
    refine fs_lcmp (pc2 := 557) (kl_at_6 rfl) rfl rfl ?_
    rw [hv9 hk0]
    refine fs_if_eq (pc2 := 560) (kl_at_6 rfl) rfl rfl (fun h557 => ?_) (fun h557 => absurd (lg_cmp_self _) h557)
    refine fs_goto (kl_at_6 rfl) rfl ?_
    first | exact hN [(5, .int _)] _ _ _ _ _ (Or.inr (Or.inl ⟨_, rfl⟩)) hF (by omega) (by omega) | exact hN [(5, .int _), (6, .int _)] _ _ _ _ _ (Or.inr (Or.inr ⟨_, _, rfl⟩)) hF (by omega) (by omega) | exact hN [] _ _ _ _ _ (Or.inl rfl) hF (by omega) (by omega)
set_option maxRecDepth 100000 in
set_option maxHeartbeats 4000000 in
theorem lc_grant_2 {u5 u6 : Int32} (hext : ev_HX l D cy zF ext) (hst : l.stackTraces = false) (hA : AlOK cy z0 a0 ext) (e1 : mb = c + 374) (e2 : oo = c + 420) (e3 : K = c + 421) (hI : LI K a0 c mb oo sh V n j) (hj : j < 512) (hx : 6 * j + 6 ≤ Lx) (hLx : Lx ≤ 3072) (hc : cc + 4 ≤ 601024) (hsl : sl + 740 ≤ 7293034) (hN : ∀ T' sh' V' n' c' sl', TS T' → LI K a0 c mb oo sh' V' n' (j + 1) → c' ≤ cc + 4 → sl' ≤ sl + 740 → lQ l D cy zF z0 ext b Lx xs Ret 1053 ([(0, .ref b), (1, .ref (z0 + c)), (2, .ref (z0 + mb)), (3, .ref (z0 + oo)), (4, .int (nI (6 * j)))] ++ T') [] sh' V' n' c' sl') : lQ l D cy zF z0 ext b Lx xs Ret 485 ([(0, .ref b), (1, .ref (z0 + c)), (2, .ref (z0 + mb)), (3, .ref (z0 + oo)), (4, .int (nI (6 * j))), (5, .int u5), (6, .int u6)]) [] sh V n cc sl := by
  obtain ⟨E, R, S, HH, g, hL, hm, hM, ho, hJ⟩ := hI
  obtain ⟨m1, m2⟩ := id hm
  have hcl := hL.1
  unfold isCL at hcl
  have hKn := hL.Kn
  have hq1 : vp_in (nI (6 * j) + 1) Lx := by rw [show (nI (6 * j) + 1 : Int32) = nI (6 * j + 1) from by rw [show (1 : Int32) = nI 1 from rfl, nI_add]]; exact vp_in_nI (by omega) (by omega)
  have hq2 : vp_in (nI (6 * j) + 2) Lx := by rw [show (nI (6 * j) + 2 : Int32) = nI (6 * j + 2) from by rw [show (2 : Int32) = nI 2 from rfl, nI_add]]; exact vp_in_nI (by omega) (by omega)
  have hq3 : vp_in (nI (6 * j) + 3) Lx := by rw [show (nI (6 * j) + 3 : Int32) = nI (6 * j + 3) from by rw [show (3 : Int32) = nI 3 from rfl, nI_add]]; exact vp_in_nI (by omega) (by omega)
  obtain ⟨k, x, S', HH', hkm, hJ', hsame, hC, hMP⟩ := tie_grant (K := K) (c := c) (mb := mb) (S := S) hext hst hA hJ hj (u := (xs (nI (6 * j) + 1).toNatClampNeg)) (w := (xs (nI (6 * j) + 2).toNatClampNeg)) (x := (xs (nI (6 * j) + 3).toNatClampNeg))
  refine fs_aload_n (pc2 := 486) (kl_at_6 rfl) rfl rfl rfl ?_
  refine fs_aload_n (pc2 := 487) (kl_at_6 rfl) rfl rfl rfl ?_
  refine fs_iload (pc2 := 489) (kl_at_6 rfl) rfl rfl rfl ?_
  refine fs_iconst (pc2 := 490) (kl_at_6 rfl) rfl rfl ?_
  refine fs_iadd (pc2 := 491) (kl_at_6 rfl) rfl rfl ?_
  refine lw_scr (pc2 := 492) (kl_at_6 rfl) rfl hq1 ?_
  refine fs_aload_n (pc2 := 493) (kl_at_6 rfl) rfl rfl rfl ?_
  refine fs_iload (pc2 := 495) (kl_at_6 rfl) rfl rfl rfl ?_
  refine fs_iconst (pc2 := 496) (kl_at_6 rfl) rfl rfl ?_
  refine fs_iadd (pc2 := 497) (kl_at_6 rfl) rfl rfl ?_
  refine lw_scr (pc2 := 498) (kl_at_6 rfl) rfl hq2 ?_
  refine fs_aload_n (pc2 := 499) (kl_at_6 rfl) rfl rfl rfl ?_
  refine fs_iload (pc2 := 501) (kl_at_6 rfl) rfl rfl rfl ?_
  refine fs_iconst (pc2 := 502) (kl_at_6 rfl) rfl rfl ?_
  refine fs_iadd (pc2 := 503) (kl_at_6 rfl) rfl rfl ?_
  refine lw_scr (pc2 := 504) (kl_at_6 rfl) rfl hq3 ?_
  refine fs_aload_n (pc2 := 505) (kl_at_6 rfl) rfl rfl rfl ?_
  refine lw_hlp (dc := 4) (ds := 740) (pc2 := 508) (kl_at_6 rfl) rfl kw_L_grant (h_grant hcl hkm (fun v sh' V' n' h => ⟨h.1, by rw [h.2.2.2.2 oo (by omega) (by omega)]; exact ho⟩) (hC sh V n E R hL)) rfl rfl (Nat.le_of_ble_eq_true rfl) rfl rfl hc hsl (fun v9 sh9 V9 n9 hp9 => ?_)
  obtain ⟨ea9, hp9⟩ := hp9
  cases ea9
  obtain ⟨E9, R9, g9, hL9, hm9, hM9, ho9, hv9⟩ := lw_aft (a := mkI x) e1 e2 e3 hL hm hM ho hsame hp9
  obtain ⟨m3, m4⟩ := id hm9
  refine fs_istore (pc2 := 510) (kl_at_6 rfl) rfl rfl (Nat.le_of_ble_eq_true rfl) ?_
  refine fs_aload_n (pc2 := 511) (kl_at_6 rfl) rfl rfl rfl ?_
  refine fs_aload_n (pc2 := 512) (kl_at_6 rfl) rfl rfl rfl ?_
  refine fs_iload (pc2 := 514) (kl_at_6 rfl) rfl rfl rfl ?_
  refine fs_iconst (pc2 := 515) (kl_at_6 rfl) rfl rfl ?_
  refine fs_iadd (pc2 := 516) (kl_at_6 rfl) rfl rfl ?_
  refine lw_scr (pc2 := 517) (kl_at_6 rfl) rfl hq1 ?_
  refine fs_aload_n (pc2 := 518) (kl_at_6 rfl) rfl rfl rfl ?_
  refine fs_iload (pc2 := 520) (kl_at_6 rfl) rfl rfl rfl ?_
  refine fs_iconst (pc2 := 521) (kl_at_6 rfl) rfl rfl ?_
  refine fs_iadd (pc2 := 522) (kl_at_6 rfl) rfl rfl ?_
  refine lw_scr (pc2 := 523) (kl_at_6 rfl) rfl hq2 ?_
  refine fs_aload_n (pc2 := 524) (kl_at_6 rfl) rfl rfl rfl ?_
  refine fs_iload (pc2 := 526) (kl_at_6 rfl) rfl rfl rfl ?_
  refine fs_iconst (pc2 := 527) (kl_at_6 rfl) rfl rfl ?_
  refine fs_iadd (pc2 := 528) (kl_at_6 rfl) rfl rfl ?_
  refine lw_scr (pc2 := 529) (kl_at_6 rfl) rfl hq3 ?_
  refine lw_callv (dc := 0) (ds := 0) (pc2 := 532) (kl_at_6 rfl) rfl rfl rfl ⟨rfl, rfl⟩ (Nat.le_of_ble_eq_true rfl) rfl rfl (by omega) (by omega) (fs_rcv rfl m3) (hMP _ _ _ hm9 hM9) (fun v8 sh8 V8 n8 hp8 => ?_)
  obtain ⟨ea8, eb8, ec8, hM8, hth, hO8⟩ := hp8
  rw [mk_if] at ea8
  cases ea8
  obtain rfl := eb8.symm
  obtain rfl := ec8.symm
  have hF := lw_fin e1 e2 e3 hL9 hm9 hM8 hO8 ho9 hJ'
  refine fs_istore (pc2 := 534) (kl_at_6 rfl) rfl rfl (Nat.le_of_ble_eq_true rfl) ?_
  refine fs_aload_n (pc2 := 535) (kl_at_6 rfl) rfl rfl rfl ?_
  refine lw_callv (dc := 0) (ds := 0) (pc2 := 538) (kl_at_6 rfl) rfl rfl rfl ⟨rfl, rfl⟩ (Nat.le_of_ble_eq_true rfl) rfl rfl (by omega) (by omega) (fs_rcv rfl m3) (m_thrown hm9) (fun v9 sh9 V9 n9 hp9 => ?_)
  obtain ⟨ea9, eb9, ec9, ed9⟩ := hp9
  cases ea9
  obtain rfl := eb9.symm
  obtain rfl := ec9.symm
  obtain rfl := ed9.symm
  rw [hth]
  refine fs_iload (pc2 := 540) (kl_at_6 rfl) rfl rfl rfl ?_
  refine fs_icmp_eq (pc2 := 543) (kl_at_6 rfl) rfl rfl (fun h540 => ?_) (fun h540 => absurd rfl h540)
  refine fs_iload (pc2 := 547) (kl_at_6 rfl) rfl rfl rfl ?_
  refine fs_if_ne (pc2 := 550) (kl_at_6 rfl) rfl rfl (fun h547 => ?_) (fun h547 => ?_)
  · refine fs_goto (kl_at_6 rfl) rfl ?_
    first | exact hN [(5, .int _)] _ _ _ _ _ (Or.inr (Or.inl ⟨_, rfl⟩)) hF (by omega) (by omega) | exact hN [(5, .int _), (6, .int _)] _ _ _ _ _ (Or.inr (Or.inr ⟨_, _, rfl⟩)) hF (by omega) (by omega) | exact hN [] _ _ _ _ _ (Or.inl rfl) hF (by omega) (by omega)
  · have hk0 : k = 0 := c_eq (a := k) (b := 0) h547 rfl rfl (by omega) (by omega)
    rw [if_pos hk0]
    refine fs_aload_n (pc2 := 551) (kl_at_6 rfl) rfl rfl rfl ?_
    refine fs_iconst (pc2 := 552) (kl_at_6 rfl) rfl rfl ?_
    refine fs_lald (pc2 := 553) (kl_at_6 rfl) rfl rfl ho9 (vp_in_nI (n := 0) (by decide) (by decide)) ?_
    refine fs_iload (pc2 := 555) (kl_at_6 rfl) rfl rfl rfl ?_
    refine fs_i2l (pc2 := 556) (kl_at_6 rfl) rfl rfl ?_
    refine fs_lcmp (pc2 := 557) (kl_at_6 rfl) rfl rfl ?_
    rw [hv9 hk0]
    refine fs_if_eq (pc2 := 560) (kl_at_6 rfl) rfl rfl (fun h557 => ?_) (fun h557 => absurd (lg_cmp_self _) h557)
    refine fs_goto (kl_at_6 rfl) rfl ?_
    first | exact hN [(5, .int _)] _ _ _ _ _ (Or.inr (Or.inl ⟨_, rfl⟩)) hF (by omega) (by omega) | exact hN [(5, .int _), (6, .int _)] _ _ _ _ _ (Or.inr (Or.inr ⟨_, _, rfl⟩)) hF (by omega) (by omega) | exact hN [] _ _ _ _ _ (Or.inl rfl) hF (by omega) (by omega)
set_option maxRecDepth 100000 in
set_option maxHeartbeats 4000000 in
theorem lc_leave_0 (hext : ev_HX l D cy zF ext) (hst : l.stackTraces = false) (hA : AlOK cy z0 a0 ext) (e1 : mb = c + 374) (e2 : oo = c + 420) (e3 : K = c + 421) (hI : LI K a0 c mb oo sh V n j) (hj : j < 512) (hx : 6 * j + 6 ≤ Lx) (hLx : Lx ≤ 3072) (hc : cc + 4 ≤ 601024) (hsl : sl + 740 ≤ 7293034) (hN : ∀ T' sh' V' n' c' sl', TS T' → LI K a0 c mb oo sh' V' n' (j + 1) → c' ≤ cc + 4 → sl' ≤ sl + 740 → lQ l D cy zF z0 ext b Lx xs Ret 1053 ([(0, .ref b), (1, .ref (z0 + c)), (2, .ref (z0 + mb)), (3, .ref (z0 + oo)), (4, .int (nI (6 * j)))] ++ T') [] sh' V' n' c' sl') : lQ l D cy zF z0 ext b Lx xs Ret 565 ([(0, .ref b), (1, .ref (z0 + c)), (2, .ref (z0 + mb)), (3, .ref (z0 + oo)), (4, .int (nI (6 * j)))]) [] sh V n cc sl := by
  obtain ⟨E, R, S, HH, g, hL, hm, hM, ho, hJ⟩ := hI
  obtain ⟨m1, m2⟩ := id hm
  have hcl := hL.1
  unfold isCL at hcl
  have hKn := hL.Kn
  have hq1 : vp_in (nI (6 * j) + 1) Lx := by rw [show (nI (6 * j) + 1 : Int32) = nI (6 * j + 1) from by rw [show (1 : Int32) = nI 1 from rfl, nI_add]]; exact vp_in_nI (by omega) (by omega)
  have hq2 : vp_in (nI (6 * j) + 2) Lx := by rw [show (nI (6 * j) + 2 : Int32) = nI (6 * j + 2) from by rw [show (2 : Int32) = nI 2 from rfl, nI_add]]; exact vp_in_nI (by omega) (by omega)
  obtain ⟨k, x, S', HH', hkm, hJ', hsame, hC, hMP⟩ := tie_leave (K := K) (c := c) (mb := mb) (S := S) hext hst hA hJ hj (u := (xs (nI (6 * j) + 1).toNatClampNeg)) (w := (xs (nI (6 * j) + 2).toNatClampNeg))
  refine fs_aload_n (pc2 := 566) (kl_at_7 rfl) rfl rfl rfl ?_
  refine fs_aload_n (pc2 := 567) (kl_at_7 rfl) rfl rfl rfl ?_
  refine fs_iload (pc2 := 569) (kl_at_7 rfl) rfl rfl rfl ?_
  refine fs_iconst (pc2 := 570) (kl_at_7 rfl) rfl rfl ?_
  refine fs_iadd (pc2 := 571) (kl_at_7 rfl) rfl rfl ?_
  refine lw_scr (pc2 := 572) (kl_at_7 rfl) rfl hq1 ?_
  refine fs_aload_n (pc2 := 573) (kl_at_7 rfl) rfl rfl rfl ?_
  refine fs_iload (pc2 := 575) (kl_at_7 rfl) rfl rfl rfl ?_
  refine fs_iconst (pc2 := 576) (kl_at_7 rfl) rfl rfl ?_
  refine fs_iadd (pc2 := 577) (kl_at_7 rfl) rfl rfl ?_
  refine lw_scr (pc2 := 578) (kl_at_7 rfl) rfl hq2 ?_
  refine lw_hlp (dc := 4) (ds := 740) (pc2 := 581) (kl_at_7 rfl) rfl kw_L_leave (h_leave hcl hkm (fun v sh' V' n' h => h.1) (hC sh V n E R hL)) rfl rfl (Nat.le_of_ble_eq_true rfl) rfl rfl hc hsl (fun v9 sh9 V9 n9 hp9 => ?_)
  obtain ⟨ea9, hp9⟩ := hp9
  cases ea9
  obtain ⟨E9, R9, g9, hL9, hm9, hM9, ho9⟩ := lw_aftV (a := none) e1 e2 e3 hL hm hM ho hsame hp9
  obtain ⟨m3, m4⟩ := id hm9
  refine fs_istore (pc2 := 583) (kl_at_7 rfl) rfl rfl (Nat.le_of_ble_eq_true rfl) ?_
  refine fs_aload_n (pc2 := 584) (kl_at_7 rfl) rfl rfl rfl ?_
  refine fs_aload_n (pc2 := 585) (kl_at_7 rfl) rfl rfl rfl ?_
  refine fs_iload (pc2 := 587) (kl_at_7 rfl) rfl rfl rfl ?_
  refine fs_iconst (pc2 := 588) (kl_at_7 rfl) rfl rfl ?_
  refine fs_iadd (pc2 := 589) (kl_at_7 rfl) rfl rfl ?_
  refine lw_scr (pc2 := 590) (kl_at_7 rfl) rfl hq1 ?_
  refine fs_aload_n (pc2 := 591) (kl_at_7 rfl) rfl rfl rfl ?_
  refine fs_iload (pc2 := 593) (kl_at_7 rfl) rfl rfl rfl ?_
  refine fs_iconst (pc2 := 594) (kl_at_7 rfl) rfl rfl ?_
  refine fs_iadd (pc2 := 595) (kl_at_7 rfl) rfl rfl ?_
  refine lw_scr (pc2 := 596) (kl_at_7 rfl) rfl hq2 ?_
  refine lw_callv (dc := 0) (ds := 0) (pc2 := 599) (kl_at_7 rfl) rfl rfl rfl ⟨rfl, rfl⟩ (Nat.le_of_ble_eq_true rfl) rfl rfl (by omega) (by omega) (fs_rcv rfl m3) (hMP _ _ _ hm9 hM9) (fun v8 sh8 V8 n8 hp8 => ?_)
  obtain ⟨ea8, eb8, ec8, hM8, hth, hO8⟩ := hp8
  rw [mk_ifV] at ea8
  cases ea8
  obtain rfl := eb8.symm
  obtain rfl := ec8.symm
  have hF := lw_fin e1 e2 e3 hL9 hm9 hM8 hO8 ho9 hJ'
  refine fs_aload_n (pc2 := 600) (kl_at_7 rfl) rfl rfl rfl ?_
  refine lw_callv (dc := 0) (ds := 0) (pc2 := 603) (kl_at_7 rfl) rfl rfl rfl ⟨rfl, rfl⟩ (Nat.le_of_ble_eq_true rfl) rfl rfl (by omega) (by omega) (fs_rcv rfl m3) (m_thrown hm9) (fun v9 sh9 V9 n9 hp9 => ?_)
  obtain ⟨ea9, eb9, ec9, ed9⟩ := hp9
  cases ea9
  obtain rfl := eb9.symm
  obtain rfl := ec9.symm
  obtain rfl := ed9.symm
  rw [hth]
  refine fs_iload (pc2 := 605) (kl_at_7 rfl) rfl rfl rfl ?_
  refine fs_icmp_eq (pc2 := 608) (kl_at_7 rfl) rfl rfl (fun h605 => ?_) (fun h605 => absurd rfl h605)
  refine fs_goto (kl_at_7 rfl) rfl ?_
  first | exact hN [(5, .int _)] _ _ _ _ _ (Or.inr (Or.inl ⟨_, rfl⟩)) hF (by omega) (by omega) | exact hN [(5, .int _), (6, .int _)] _ _ _ _ _ (Or.inr (Or.inr ⟨_, _, rfl⟩)) hF (by omega) (by omega) | exact hN [] _ _ _ _ _ (Or.inl rfl) hF (by omega) (by omega)
set_option maxRecDepth 100000 in
set_option maxHeartbeats 4000000 in
theorem lc_leave_1 {u5 : Int32} (hext : ev_HX l D cy zF ext) (hst : l.stackTraces = false) (hA : AlOK cy z0 a0 ext) (e1 : mb = c + 374) (e2 : oo = c + 420) (e3 : K = c + 421) (hI : LI K a0 c mb oo sh V n j) (hj : j < 512) (hx : 6 * j + 6 ≤ Lx) (hLx : Lx ≤ 3072) (hc : cc + 4 ≤ 601024) (hsl : sl + 740 ≤ 7293034) (hN : ∀ T' sh' V' n' c' sl', TS T' → LI K a0 c mb oo sh' V' n' (j + 1) → c' ≤ cc + 4 → sl' ≤ sl + 740 → lQ l D cy zF z0 ext b Lx xs Ret 1053 ([(0, .ref b), (1, .ref (z0 + c)), (2, .ref (z0 + mb)), (3, .ref (z0 + oo)), (4, .int (nI (6 * j)))] ++ T') [] sh' V' n' c' sl') : lQ l D cy zF z0 ext b Lx xs Ret 565 ([(0, .ref b), (1, .ref (z0 + c)), (2, .ref (z0 + mb)), (3, .ref (z0 + oo)), (4, .int (nI (6 * j))), (5, .int u5)]) [] sh V n cc sl := by
  obtain ⟨E, R, S, HH, g, hL, hm, hM, ho, hJ⟩ := hI
  obtain ⟨m1, m2⟩ := id hm
  have hcl := hL.1
  unfold isCL at hcl
  have hKn := hL.Kn
  have hq1 : vp_in (nI (6 * j) + 1) Lx := by rw [show (nI (6 * j) + 1 : Int32) = nI (6 * j + 1) from by rw [show (1 : Int32) = nI 1 from rfl, nI_add]]; exact vp_in_nI (by omega) (by omega)
  have hq2 : vp_in (nI (6 * j) + 2) Lx := by rw [show (nI (6 * j) + 2 : Int32) = nI (6 * j + 2) from by rw [show (2 : Int32) = nI 2 from rfl, nI_add]]; exact vp_in_nI (by omega) (by omega)
  obtain ⟨k, x, S', HH', hkm, hJ', hsame, hC, hMP⟩ := tie_leave (K := K) (c := c) (mb := mb) (S := S) hext hst hA hJ hj (u := (xs (nI (6 * j) + 1).toNatClampNeg)) (w := (xs (nI (6 * j) + 2).toNatClampNeg))
  refine fs_aload_n (pc2 := 566) (kl_at_7 rfl) rfl rfl rfl ?_
  refine fs_aload_n (pc2 := 567) (kl_at_7 rfl) rfl rfl rfl ?_
  refine fs_iload (pc2 := 569) (kl_at_7 rfl) rfl rfl rfl ?_
  refine fs_iconst (pc2 := 570) (kl_at_7 rfl) rfl rfl ?_
  refine fs_iadd (pc2 := 571) (kl_at_7 rfl) rfl rfl ?_
  refine lw_scr (pc2 := 572) (kl_at_7 rfl) rfl hq1 ?_
  refine fs_aload_n (pc2 := 573) (kl_at_7 rfl) rfl rfl rfl ?_
  refine fs_iload (pc2 := 575) (kl_at_7 rfl) rfl rfl rfl ?_
  refine fs_iconst (pc2 := 576) (kl_at_7 rfl) rfl rfl ?_
  refine fs_iadd (pc2 := 577) (kl_at_7 rfl) rfl rfl ?_
  refine lw_scr (pc2 := 578) (kl_at_7 rfl) rfl hq2 ?_
  refine lw_hlp (dc := 4) (ds := 740) (pc2 := 581) (kl_at_7 rfl) rfl kw_L_leave (h_leave hcl hkm (fun v sh' V' n' h => h.1) (hC sh V n E R hL)) rfl rfl (Nat.le_of_ble_eq_true rfl) rfl rfl hc hsl (fun v9 sh9 V9 n9 hp9 => ?_)
  obtain ⟨ea9, hp9⟩ := hp9
  cases ea9
  obtain ⟨E9, R9, g9, hL9, hm9, hM9, ho9⟩ := lw_aftV (a := none) e1 e2 e3 hL hm hM ho hsame hp9
  obtain ⟨m3, m4⟩ := id hm9
  refine fs_istore (pc2 := 583) (kl_at_7 rfl) rfl rfl (Nat.le_of_ble_eq_true rfl) ?_
  refine fs_aload_n (pc2 := 584) (kl_at_7 rfl) rfl rfl rfl ?_
  refine fs_aload_n (pc2 := 585) (kl_at_7 rfl) rfl rfl rfl ?_
  refine fs_iload (pc2 := 587) (kl_at_7 rfl) rfl rfl rfl ?_
  refine fs_iconst (pc2 := 588) (kl_at_7 rfl) rfl rfl ?_
  refine fs_iadd (pc2 := 589) (kl_at_7 rfl) rfl rfl ?_
  refine lw_scr (pc2 := 590) (kl_at_7 rfl) rfl hq1 ?_
  refine fs_aload_n (pc2 := 591) (kl_at_7 rfl) rfl rfl rfl ?_
  refine fs_iload (pc2 := 593) (kl_at_7 rfl) rfl rfl rfl ?_
  refine fs_iconst (pc2 := 594) (kl_at_7 rfl) rfl rfl ?_
  refine fs_iadd (pc2 := 595) (kl_at_7 rfl) rfl rfl ?_
  refine lw_scr (pc2 := 596) (kl_at_7 rfl) rfl hq2 ?_
  refine lw_callv (dc := 0) (ds := 0) (pc2 := 599) (kl_at_7 rfl) rfl rfl rfl ⟨rfl, rfl⟩ (Nat.le_of_ble_eq_true rfl) rfl rfl (by omega) (by omega) (fs_rcv rfl m3) (hMP _ _ _ hm9 hM9) (fun v8 sh8 V8 n8 hp8 => ?_)
  obtain ⟨ea8, eb8, ec8, hM8, hth, hO8⟩ := hp8
  rw [mk_ifV] at ea8
  cases ea8
  obtain rfl := eb8.symm
  obtain rfl := ec8.symm
  have hF := lw_fin e1 e2 e3 hL9 hm9 hM8 hO8 ho9 hJ'
  refine fs_aload_n (pc2 := 600) (kl_at_7 rfl) rfl rfl rfl ?_
  refine lw_callv (dc := 0) (ds := 0) (pc2 := 603) (kl_at_7 rfl) rfl rfl rfl ⟨rfl, rfl⟩ (Nat.le_of_ble_eq_true rfl) rfl rfl (by omega) (by omega) (fs_rcv rfl m3) (m_thrown hm9) (fun v9 sh9 V9 n9 hp9 => ?_)
  obtain ⟨ea9, eb9, ec9, ed9⟩ := hp9
  cases ea9
  obtain rfl := eb9.symm
  obtain rfl := ec9.symm
  obtain rfl := ed9.symm
  rw [hth]
  refine fs_iload (pc2 := 605) (kl_at_7 rfl) rfl rfl rfl ?_
  refine fs_icmp_eq (pc2 := 608) (kl_at_7 rfl) rfl rfl (fun h605 => ?_) (fun h605 => absurd rfl h605)
  refine fs_goto (kl_at_7 rfl) rfl ?_
  first | exact hN [(5, .int _)] _ _ _ _ _ (Or.inr (Or.inl ⟨_, rfl⟩)) hF (by omega) (by omega) | exact hN [(5, .int _), (6, .int _)] _ _ _ _ _ (Or.inr (Or.inr ⟨_, _, rfl⟩)) hF (by omega) (by omega) | exact hN [] _ _ _ _ _ (Or.inl rfl) hF (by omega) (by omega)
set_option maxRecDepth 100000 in
set_option maxHeartbeats 4000000 in
theorem lc_leave_2 {u5 u6 : Int32} (hext : ev_HX l D cy zF ext) (hst : l.stackTraces = false) (hA : AlOK cy z0 a0 ext) (e1 : mb = c + 374) (e2 : oo = c + 420) (e3 : K = c + 421) (hI : LI K a0 c mb oo sh V n j) (hj : j < 512) (hx : 6 * j + 6 ≤ Lx) (hLx : Lx ≤ 3072) (hc : cc + 4 ≤ 601024) (hsl : sl + 740 ≤ 7293034) (hN : ∀ T' sh' V' n' c' sl', TS T' → LI K a0 c mb oo sh' V' n' (j + 1) → c' ≤ cc + 4 → sl' ≤ sl + 740 → lQ l D cy zF z0 ext b Lx xs Ret 1053 ([(0, .ref b), (1, .ref (z0 + c)), (2, .ref (z0 + mb)), (3, .ref (z0 + oo)), (4, .int (nI (6 * j)))] ++ T') [] sh' V' n' c' sl') : lQ l D cy zF z0 ext b Lx xs Ret 565 ([(0, .ref b), (1, .ref (z0 + c)), (2, .ref (z0 + mb)), (3, .ref (z0 + oo)), (4, .int (nI (6 * j))), (5, .int u5), (6, .int u6)]) [] sh V n cc sl := by
  obtain ⟨E, R, S, HH, g, hL, hm, hM, ho, hJ⟩ := hI
  obtain ⟨m1, m2⟩ := id hm
  have hcl := hL.1
  unfold isCL at hcl
  have hKn := hL.Kn
  have hq1 : vp_in (nI (6 * j) + 1) Lx := by rw [show (nI (6 * j) + 1 : Int32) = nI (6 * j + 1) from by rw [show (1 : Int32) = nI 1 from rfl, nI_add]]; exact vp_in_nI (by omega) (by omega)
  have hq2 : vp_in (nI (6 * j) + 2) Lx := by rw [show (nI (6 * j) + 2 : Int32) = nI (6 * j + 2) from by rw [show (2 : Int32) = nI 2 from rfl, nI_add]]; exact vp_in_nI (by omega) (by omega)
  obtain ⟨k, x, S', HH', hkm, hJ', hsame, hC, hMP⟩ := tie_leave (K := K) (c := c) (mb := mb) (S := S) hext hst hA hJ hj (u := (xs (nI (6 * j) + 1).toNatClampNeg)) (w := (xs (nI (6 * j) + 2).toNatClampNeg))
  refine fs_aload_n (pc2 := 566) (kl_at_7 rfl) rfl rfl rfl ?_
  refine fs_aload_n (pc2 := 567) (kl_at_7 rfl) rfl rfl rfl ?_
  refine fs_iload (pc2 := 569) (kl_at_7 rfl) rfl rfl rfl ?_
  refine fs_iconst (pc2 := 570) (kl_at_7 rfl) rfl rfl ?_
  refine fs_iadd (pc2 := 571) (kl_at_7 rfl) rfl rfl ?_
  refine lw_scr (pc2 := 572) (kl_at_7 rfl) rfl hq1 ?_
  refine fs_aload_n (pc2 := 573) (kl_at_7 rfl) rfl rfl rfl ?_
  refine fs_iload (pc2 := 575) (kl_at_7 rfl) rfl rfl rfl ?_
  refine fs_iconst (pc2 := 576) (kl_at_7 rfl) rfl rfl ?_
  refine fs_iadd (pc2 := 577) (kl_at_7 rfl) rfl rfl ?_
  refine lw_scr (pc2 := 578) (kl_at_7 rfl) rfl hq2 ?_
  refine lw_hlp (dc := 4) (ds := 740) (pc2 := 581) (kl_at_7 rfl) rfl kw_L_leave (h_leave hcl hkm (fun v sh' V' n' h => h.1) (hC sh V n E R hL)) rfl rfl (Nat.le_of_ble_eq_true rfl) rfl rfl hc hsl (fun v9 sh9 V9 n9 hp9 => ?_)
  obtain ⟨ea9, hp9⟩ := hp9
  cases ea9
  obtain ⟨E9, R9, g9, hL9, hm9, hM9, ho9⟩ := lw_aftV (a := none) e1 e2 e3 hL hm hM ho hsame hp9
  obtain ⟨m3, m4⟩ := id hm9
  refine fs_istore (pc2 := 583) (kl_at_7 rfl) rfl rfl (Nat.le_of_ble_eq_true rfl) ?_
  refine fs_aload_n (pc2 := 584) (kl_at_7 rfl) rfl rfl rfl ?_
  refine fs_aload_n (pc2 := 585) (kl_at_7 rfl) rfl rfl rfl ?_
  refine fs_iload (pc2 := 587) (kl_at_7 rfl) rfl rfl rfl ?_
  refine fs_iconst (pc2 := 588) (kl_at_7 rfl) rfl rfl ?_
  refine fs_iadd (pc2 := 589) (kl_at_7 rfl) rfl rfl ?_
  refine lw_scr (pc2 := 590) (kl_at_7 rfl) rfl hq1 ?_
  refine fs_aload_n (pc2 := 591) (kl_at_7 rfl) rfl rfl rfl ?_
  refine fs_iload (pc2 := 593) (kl_at_7 rfl) rfl rfl rfl ?_
  refine fs_iconst (pc2 := 594) (kl_at_7 rfl) rfl rfl ?_
  refine fs_iadd (pc2 := 595) (kl_at_7 rfl) rfl rfl ?_
  refine lw_scr (pc2 := 596) (kl_at_7 rfl) rfl hq2 ?_
  refine lw_callv (dc := 0) (ds := 0) (pc2 := 599) (kl_at_7 rfl) rfl rfl rfl ⟨rfl, rfl⟩ (Nat.le_of_ble_eq_true rfl) rfl rfl (by omega) (by omega) (fs_rcv rfl m3) (hMP _ _ _ hm9 hM9) (fun v8 sh8 V8 n8 hp8 => ?_)
  obtain ⟨ea8, eb8, ec8, hM8, hth, hO8⟩ := hp8
  rw [mk_ifV] at ea8
  cases ea8
  obtain rfl := eb8.symm
  obtain rfl := ec8.symm
  have hF := lw_fin e1 e2 e3 hL9 hm9 hM8 hO8 ho9 hJ'
  refine fs_aload_n (pc2 := 600) (kl_at_7 rfl) rfl rfl rfl ?_
  refine lw_callv (dc := 0) (ds := 0) (pc2 := 603) (kl_at_7 rfl) rfl rfl rfl ⟨rfl, rfl⟩ (Nat.le_of_ble_eq_true rfl) rfl rfl (by omega) (by omega) (fs_rcv rfl m3) (m_thrown hm9) (fun v9 sh9 V9 n9 hp9 => ?_)
  obtain ⟨ea9, eb9, ec9, ed9⟩ := hp9
  cases ea9
  obtain rfl := eb9.symm
  obtain rfl := ec9.symm
  obtain rfl := ed9.symm
  rw [hth]
  refine fs_iload (pc2 := 605) (kl_at_7 rfl) rfl rfl rfl ?_
  refine fs_icmp_eq (pc2 := 608) (kl_at_7 rfl) rfl rfl (fun h605 => ?_) (fun h605 => absurd rfl h605)
  refine fs_goto (kl_at_7 rfl) rfl ?_
  first | exact hN [(5, .int _)] _ _ _ _ _ (Or.inr (Or.inl ⟨_, rfl⟩)) hF (by omega) (by omega) | exact hN [(5, .int _), (6, .int _)] _ _ _ _ _ (Or.inr (Or.inr ⟨_, _, rfl⟩)) hF (by omega) (by omega) | exact hN [] _ _ _ _ _ (Or.inl rfl) hF (by omega) (by omega)
set_option maxRecDepth 100000 in
set_option maxHeartbeats 4000000 in
theorem lc_take_0 (hext : ev_HX l D cy zF ext) (hst : l.stackTraces = false) (hA : AlOK cy z0 a0 ext) (e1 : mb = c + 374) (e2 : oo = c + 420) (e3 : K = c + 421) (hI : LI K a0 c mb oo sh V n j) (hj : j < 512) (hx : 6 * j + 6 ≤ Lx) (hLx : Lx ≤ 3072) (hc : cc + 4 ≤ 601024) (hsl : sl + 740 ≤ 7293034) (hN : ∀ T' sh' V' n' c' sl', TS T' → LI K a0 c mb oo sh' V' n' (j + 1) → c' ≤ cc + 4 → sl' ≤ sl + 740 → lQ l D cy zF z0 ext b Lx xs Ret 1053 ([(0, .ref b), (1, .ref (z0 + c)), (2, .ref (z0 + mb)), (3, .ref (z0 + oo)), (4, .int (nI (6 * j)))] ++ T') [] sh' V' n' c' sl') : lQ l D cy zF z0 ext b Lx xs Ret 613 ([(0, .ref b), (1, .ref (z0 + c)), (2, .ref (z0 + mb)), (3, .ref (z0 + oo)), (4, .int (nI (6 * j)))]) [] sh V n cc sl := by
  obtain ⟨E, R, S, HH, g, hL, hm, hM, ho, hJ⟩ := hI
  obtain ⟨m1, m2⟩ := id hm
  have hcl := hL.1
  unfold isCL at hcl
  have hKn := hL.Kn
  have hq1 : vp_in (nI (6 * j) + 1) Lx := by rw [show (nI (6 * j) + 1 : Int32) = nI (6 * j + 1) from by rw [show (1 : Int32) = nI 1 from rfl, nI_add]]; exact vp_in_nI (by omega) (by omega)
  obtain ⟨k, x, S', HH', hkm, hJ', hsame, hC, hMP⟩ := tie_take (K := K) (c := c) (mb := mb) (S := S) hext hst hA hJ hj (u := (xs (nI (6 * j) + 1).toNatClampNeg))
  refine fs_aload_n (pc2 := 614) (kl_at_8 rfl) rfl rfl rfl ?_
  refine fs_aload_n (pc2 := 615) (kl_at_8 rfl) rfl rfl rfl ?_
  refine fs_iload (pc2 := 617) (kl_at_8 rfl) rfl rfl rfl ?_
  refine fs_iconst (pc2 := 618) (kl_at_8 rfl) rfl rfl ?_
  refine fs_iadd (pc2 := 619) (kl_at_8 rfl) rfl rfl ?_
  refine lw_scr (pc2 := 620) (kl_at_8 rfl) rfl hq1 ?_
  refine fs_aload_n (pc2 := 621) (kl_at_8 rfl) rfl rfl rfl ?_
  refine lw_hlp (dc := 4) (ds := 740) (pc2 := 624) (kl_at_8 rfl) rfl kw_L_take (h_take hcl hkm (fun v sh' V' n' h => ⟨h.1, by rw [h.2.2.2.2 oo (by omega) (by omega)]; exact ho⟩) (hC sh V n E R hL)) rfl rfl (Nat.le_of_ble_eq_true rfl) rfl rfl hc hsl (fun v9 sh9 V9 n9 hp9 => ?_)
  obtain ⟨ea9, hp9⟩ := hp9
  cases ea9
  obtain ⟨E9, R9, g9, hL9, hm9, hM9, ho9, hv9⟩ := lw_aft (a := mkI x) e1 e2 e3 hL hm hM ho hsame hp9
  obtain ⟨m3, m4⟩ := id hm9
  refine fs_istore (pc2 := 626) (kl_at_8 rfl) rfl rfl (Nat.le_of_ble_eq_true rfl) ?_
  refine fs_aload_n (pc2 := 627) (kl_at_8 rfl) rfl rfl rfl ?_
  refine fs_aload_n (pc2 := 628) (kl_at_8 rfl) rfl rfl rfl ?_
  refine fs_iload (pc2 := 630) (kl_at_8 rfl) rfl rfl rfl ?_
  refine fs_iconst (pc2 := 631) (kl_at_8 rfl) rfl rfl ?_
  refine fs_iadd (pc2 := 632) (kl_at_8 rfl) rfl rfl ?_
  refine lw_scr (pc2 := 633) (kl_at_8 rfl) rfl hq1 ?_
  refine lw_callv (dc := 0) (ds := 0) (pc2 := 636) (kl_at_8 rfl) rfl rfl rfl ⟨rfl, rfl⟩ (Nat.le_of_ble_eq_true rfl) rfl rfl (by omega) (by omega) (fs_rcv rfl m3) (hMP _ _ _ hm9 hM9) (fun v8 sh8 V8 n8 hp8 => ?_)
  obtain ⟨ea8, eb8, ec8, hM8, hth, hO8⟩ := hp8
  rw [mk_if] at ea8
  cases ea8
  obtain rfl := eb8.symm
  obtain rfl := ec8.symm
  have hF := lw_fin e1 e2 e3 hL9 hm9 hM8 hO8 ho9 hJ'
  refine fs_istore (pc2 := 638) (kl_at_8 rfl) rfl rfl (Nat.le_of_ble_eq_true rfl) ?_
  refine fs_aload_n (pc2 := 639) (kl_at_8 rfl) rfl rfl rfl ?_
  refine lw_callv (dc := 0) (ds := 0) (pc2 := 642) (kl_at_8 rfl) rfl rfl rfl ⟨rfl, rfl⟩ (Nat.le_of_ble_eq_true rfl) rfl rfl (by omega) (by omega) (fs_rcv rfl m3) (m_thrown hm9) (fun v9 sh9 V9 n9 hp9 => ?_)
  obtain ⟨ea9, eb9, ec9, ed9⟩ := hp9
  cases ea9
  obtain rfl := eb9.symm
  obtain rfl := ec9.symm
  obtain rfl := ed9.symm
  rw [hth]
  refine fs_iload (pc2 := 644) (kl_at_8 rfl) rfl rfl rfl ?_
  refine fs_icmp_eq (pc2 := 647) (kl_at_8 rfl) rfl rfl (fun h644 => ?_) (fun h644 => absurd rfl h644)
  refine fs_iload (pc2 := 651) (kl_at_8 rfl) rfl rfl rfl ?_
  refine fs_if_ne (pc2 := 654) (kl_at_8 rfl) rfl rfl (fun h651 => ?_) (fun h651 => ?_)
  · refine fs_goto (kl_at_8 rfl) rfl ?_
    first | exact hN [(5, .int _)] _ _ _ _ _ (Or.inr (Or.inl ⟨_, rfl⟩)) hF (by omega) (by omega) | exact hN [(5, .int _), (6, .int _)] _ _ _ _ _ (Or.inr (Or.inr ⟨_, _, rfl⟩)) hF (by omega) (by omega) | exact hN [] _ _ _ _ _ (Or.inl rfl) hF (by omega) (by omega)
  · have hk0 : k = 0 := c_eq (a := k) (b := 0) h651 rfl rfl (by omega) (by omega)
    rw [if_pos hk0]
    refine fs_aload_n (pc2 := 655) (kl_at_8 rfl) rfl rfl rfl ?_
    refine fs_iconst (pc2 := 656) (kl_at_8 rfl) rfl rfl ?_
    refine fs_lald (pc2 := 657) (kl_at_8 rfl) rfl rfl ho9 (vp_in_nI (n := 0) (by decide) (by decide)) ?_
    refine fs_iload (pc2 := 659) (kl_at_8 rfl) rfl rfl rfl ?_
    refine fs_i2l (pc2 := 660) (kl_at_8 rfl) rfl rfl ?_
    refine fs_lcmp (pc2 := 661) (kl_at_8 rfl) rfl rfl ?_
    rw [hv9 hk0]
    refine fs_if_eq (pc2 := 664) (kl_at_8 rfl) rfl rfl (fun h661 => ?_) (fun h661 => absurd (lg_cmp_self _) h661)
    refine fs_goto (kl_at_8 rfl) rfl ?_
    first | exact hN [(5, .int _)] _ _ _ _ _ (Or.inr (Or.inl ⟨_, rfl⟩)) hF (by omega) (by omega) | exact hN [(5, .int _), (6, .int _)] _ _ _ _ _ (Or.inr (Or.inr ⟨_, _, rfl⟩)) hF (by omega) (by omega) | exact hN [] _ _ _ _ _ (Or.inl rfl) hF (by omega) (by omega)
set_option maxRecDepth 100000 in
set_option maxHeartbeats 4000000 in
theorem lc_take_1 {u5 : Int32} (hext : ev_HX l D cy zF ext) (hst : l.stackTraces = false) (hA : AlOK cy z0 a0 ext) (e1 : mb = c + 374) (e2 : oo = c + 420) (e3 : K = c + 421) (hI : LI K a0 c mb oo sh V n j) (hj : j < 512) (hx : 6 * j + 6 ≤ Lx) (hLx : Lx ≤ 3072) (hc : cc + 4 ≤ 601024) (hsl : sl + 740 ≤ 7293034) (hN : ∀ T' sh' V' n' c' sl', TS T' → LI K a0 c mb oo sh' V' n' (j + 1) → c' ≤ cc + 4 → sl' ≤ sl + 740 → lQ l D cy zF z0 ext b Lx xs Ret 1053 ([(0, .ref b), (1, .ref (z0 + c)), (2, .ref (z0 + mb)), (3, .ref (z0 + oo)), (4, .int (nI (6 * j)))] ++ T') [] sh' V' n' c' sl') : lQ l D cy zF z0 ext b Lx xs Ret 613 ([(0, .ref b), (1, .ref (z0 + c)), (2, .ref (z0 + mb)), (3, .ref (z0 + oo)), (4, .int (nI (6 * j))), (5, .int u5)]) [] sh V n cc sl := by
  obtain ⟨E, R, S, HH, g, hL, hm, hM, ho, hJ⟩ := hI
  obtain ⟨m1, m2⟩ := id hm
  have hcl := hL.1
  unfold isCL at hcl
  have hKn := hL.Kn
  have hq1 : vp_in (nI (6 * j) + 1) Lx := by rw [show (nI (6 * j) + 1 : Int32) = nI (6 * j + 1) from by rw [show (1 : Int32) = nI 1 from rfl, nI_add]]; exact vp_in_nI (by omega) (by omega)
  obtain ⟨k, x, S', HH', hkm, hJ', hsame, hC, hMP⟩ := tie_take (K := K) (c := c) (mb := mb) (S := S) hext hst hA hJ hj (u := (xs (nI (6 * j) + 1).toNatClampNeg))
  refine fs_aload_n (pc2 := 614) (kl_at_8 rfl) rfl rfl rfl ?_
  refine fs_aload_n (pc2 := 615) (kl_at_8 rfl) rfl rfl rfl ?_
  refine fs_iload (pc2 := 617) (kl_at_8 rfl) rfl rfl rfl ?_
  refine fs_iconst (pc2 := 618) (kl_at_8 rfl) rfl rfl ?_
  refine fs_iadd (pc2 := 619) (kl_at_8 rfl) rfl rfl ?_
  refine lw_scr (pc2 := 620) (kl_at_8 rfl) rfl hq1 ?_
  refine fs_aload_n (pc2 := 621) (kl_at_8 rfl) rfl rfl rfl ?_
  refine lw_hlp (dc := 4) (ds := 740) (pc2 := 624) (kl_at_8 rfl) rfl kw_L_take (h_take hcl hkm (fun v sh' V' n' h => ⟨h.1, by rw [h.2.2.2.2 oo (by omega) (by omega)]; exact ho⟩) (hC sh V n E R hL)) rfl rfl (Nat.le_of_ble_eq_true rfl) rfl rfl hc hsl (fun v9 sh9 V9 n9 hp9 => ?_)
  obtain ⟨ea9, hp9⟩ := hp9
  cases ea9
  obtain ⟨E9, R9, g9, hL9, hm9, hM9, ho9, hv9⟩ := lw_aft (a := mkI x) e1 e2 e3 hL hm hM ho hsame hp9
  obtain ⟨m3, m4⟩ := id hm9
  refine fs_istore (pc2 := 626) (kl_at_8 rfl) rfl rfl (Nat.le_of_ble_eq_true rfl) ?_
  refine fs_aload_n (pc2 := 627) (kl_at_8 rfl) rfl rfl rfl ?_
  refine fs_aload_n (pc2 := 628) (kl_at_8 rfl) rfl rfl rfl ?_
  refine fs_iload (pc2 := 630) (kl_at_8 rfl) rfl rfl rfl ?_
  refine fs_iconst (pc2 := 631) (kl_at_8 rfl) rfl rfl ?_
  refine fs_iadd (pc2 := 632) (kl_at_8 rfl) rfl rfl ?_
  refine lw_scr (pc2 := 633) (kl_at_8 rfl) rfl hq1 ?_
  refine lw_callv (dc := 0) (ds := 0) (pc2 := 636) (kl_at_8 rfl) rfl rfl rfl ⟨rfl, rfl⟩ (Nat.le_of_ble_eq_true rfl) rfl rfl (by omega) (by omega) (fs_rcv rfl m3) (hMP _ _ _ hm9 hM9) (fun v8 sh8 V8 n8 hp8 => ?_)
  obtain ⟨ea8, eb8, ec8, hM8, hth, hO8⟩ := hp8
  rw [mk_if] at ea8
  cases ea8
  obtain rfl := eb8.symm
  obtain rfl := ec8.symm
  have hF := lw_fin e1 e2 e3 hL9 hm9 hM8 hO8 ho9 hJ'
  refine fs_istore (pc2 := 638) (kl_at_8 rfl) rfl rfl (Nat.le_of_ble_eq_true rfl) ?_
  refine fs_aload_n (pc2 := 639) (kl_at_8 rfl) rfl rfl rfl ?_
  refine lw_callv (dc := 0) (ds := 0) (pc2 := 642) (kl_at_8 rfl) rfl rfl rfl ⟨rfl, rfl⟩ (Nat.le_of_ble_eq_true rfl) rfl rfl (by omega) (by omega) (fs_rcv rfl m3) (m_thrown hm9) (fun v9 sh9 V9 n9 hp9 => ?_)
  obtain ⟨ea9, eb9, ec9, ed9⟩ := hp9
  cases ea9
  obtain rfl := eb9.symm
  obtain rfl := ec9.symm
  obtain rfl := ed9.symm
  rw [hth]
  refine fs_iload (pc2 := 644) (kl_at_8 rfl) rfl rfl rfl ?_
  refine fs_icmp_eq (pc2 := 647) (kl_at_8 rfl) rfl rfl (fun h644 => ?_) (fun h644 => absurd rfl h644)
  refine fs_iload (pc2 := 651) (kl_at_8 rfl) rfl rfl rfl ?_
  refine fs_if_ne (pc2 := 654) (kl_at_8 rfl) rfl rfl (fun h651 => ?_) (fun h651 => ?_)
  · refine fs_goto (kl_at_8 rfl) rfl ?_
    first | exact hN [(5, .int _)] _ _ _ _ _ (Or.inr (Or.inl ⟨_, rfl⟩)) hF (by omega) (by omega) | exact hN [(5, .int _), (6, .int _)] _ _ _ _ _ (Or.inr (Or.inr ⟨_, _, rfl⟩)) hF (by omega) (by omega) | exact hN [] _ _ _ _ _ (Or.inl rfl) hF (by omega) (by omega)
  · have hk0 : k = 0 := c_eq (a := k) (b := 0) h651 rfl rfl (by omega) (by omega)
    rw [if_pos hk0]
    refine fs_aload_n (pc2 := 655) (kl_at_8 rfl) rfl rfl rfl ?_
    refine fs_iconst (pc2 := 656) (kl_at_8 rfl) rfl rfl ?_
    refine fs_lald (pc2 := 657) (kl_at_8 rfl) rfl rfl ho9 (vp_in_nI (n := 0) (by decide) (by decide)) ?_
    refine fs_iload (pc2 := 659) (kl_at_8 rfl) rfl rfl rfl ?_
    refine fs_i2l (pc2 := 660) (kl_at_8 rfl) rfl rfl ?_
    refine fs_lcmp (pc2 := 661) (kl_at_8 rfl) rfl rfl ?_
    rw [hv9 hk0]
    refine fs_if_eq (pc2 := 664) (kl_at_8 rfl) rfl rfl (fun h661 => ?_) (fun h661 => absurd (lg_cmp_self _) h661)
    refine fs_goto (kl_at_8 rfl) rfl ?_
    first | exact hN [(5, .int _)] _ _ _ _ _ (Or.inr (Or.inl ⟨_, rfl⟩)) hF (by omega) (by omega) | exact hN [(5, .int _), (6, .int _)] _ _ _ _ _ (Or.inr (Or.inr ⟨_, _, rfl⟩)) hF (by omega) (by omega) | exact hN [] _ _ _ _ _ (Or.inl rfl) hF (by omega) (by omega)
set_option maxRecDepth 100000 in
set_option maxHeartbeats 4000000 in
theorem lc_take_2 {u5 u6 : Int32} (hext : ev_HX l D cy zF ext) (hst : l.stackTraces = false) (hA : AlOK cy z0 a0 ext) (e1 : mb = c + 374) (e2 : oo = c + 420) (e3 : K = c + 421) (hI : LI K a0 c mb oo sh V n j) (hj : j < 512) (hx : 6 * j + 6 ≤ Lx) (hLx : Lx ≤ 3072) (hc : cc + 4 ≤ 601024) (hsl : sl + 740 ≤ 7293034) (hN : ∀ T' sh' V' n' c' sl', TS T' → LI K a0 c mb oo sh' V' n' (j + 1) → c' ≤ cc + 4 → sl' ≤ sl + 740 → lQ l D cy zF z0 ext b Lx xs Ret 1053 ([(0, .ref b), (1, .ref (z0 + c)), (2, .ref (z0 + mb)), (3, .ref (z0 + oo)), (4, .int (nI (6 * j)))] ++ T') [] sh' V' n' c' sl') : lQ l D cy zF z0 ext b Lx xs Ret 613 ([(0, .ref b), (1, .ref (z0 + c)), (2, .ref (z0 + mb)), (3, .ref (z0 + oo)), (4, .int (nI (6 * j))), (5, .int u5), (6, .int u6)]) [] sh V n cc sl := by
  obtain ⟨E, R, S, HH, g, hL, hm, hM, ho, hJ⟩ := hI
  obtain ⟨m1, m2⟩ := id hm
  have hcl := hL.1
  unfold isCL at hcl
  have hKn := hL.Kn
  have hq1 : vp_in (nI (6 * j) + 1) Lx := by rw [show (nI (6 * j) + 1 : Int32) = nI (6 * j + 1) from by rw [show (1 : Int32) = nI 1 from rfl, nI_add]]; exact vp_in_nI (by omega) (by omega)
  obtain ⟨k, x, S', HH', hkm, hJ', hsame, hC, hMP⟩ := tie_take (K := K) (c := c) (mb := mb) (S := S) hext hst hA hJ hj (u := (xs (nI (6 * j) + 1).toNatClampNeg))
  refine fs_aload_n (pc2 := 614) (kl_at_8 rfl) rfl rfl rfl ?_
  refine fs_aload_n (pc2 := 615) (kl_at_8 rfl) rfl rfl rfl ?_
  refine fs_iload (pc2 := 617) (kl_at_8 rfl) rfl rfl rfl ?_
  refine fs_iconst (pc2 := 618) (kl_at_8 rfl) rfl rfl ?_
  refine fs_iadd (pc2 := 619) (kl_at_8 rfl) rfl rfl ?_
  refine lw_scr (pc2 := 620) (kl_at_8 rfl) rfl hq1 ?_
  refine fs_aload_n (pc2 := 621) (kl_at_8 rfl) rfl rfl rfl ?_
  refine lw_hlp (dc := 4) (ds := 740) (pc2 := 624) (kl_at_8 rfl) rfl kw_L_take (h_take hcl hkm (fun v sh' V' n' h => ⟨h.1, by rw [h.2.2.2.2 oo (by omega) (by omega)]; exact ho⟩) (hC sh V n E R hL)) rfl rfl (Nat.le_of_ble_eq_true rfl) rfl rfl hc hsl (fun v9 sh9 V9 n9 hp9 => ?_)
  obtain ⟨ea9, hp9⟩ := hp9
  cases ea9
  obtain ⟨E9, R9, g9, hL9, hm9, hM9, ho9, hv9⟩ := lw_aft (a := mkI x) e1 e2 e3 hL hm hM ho hsame hp9
  obtain ⟨m3, m4⟩ := id hm9
  refine fs_istore (pc2 := 626) (kl_at_8 rfl) rfl rfl (Nat.le_of_ble_eq_true rfl) ?_
  refine fs_aload_n (pc2 := 627) (kl_at_8 rfl) rfl rfl rfl ?_
  refine fs_aload_n (pc2 := 628) (kl_at_8 rfl) rfl rfl rfl ?_
  refine fs_iload (pc2 := 630) (kl_at_8 rfl) rfl rfl rfl ?_
  refine fs_iconst (pc2 := 631) (kl_at_8 rfl) rfl rfl ?_
  refine fs_iadd (pc2 := 632) (kl_at_8 rfl) rfl rfl ?_
  refine lw_scr (pc2 := 633) (kl_at_8 rfl) rfl hq1 ?_
  refine lw_callv (dc := 0) (ds := 0) (pc2 := 636) (kl_at_8 rfl) rfl rfl rfl ⟨rfl, rfl⟩ (Nat.le_of_ble_eq_true rfl) rfl rfl (by omega) (by omega) (fs_rcv rfl m3) (hMP _ _ _ hm9 hM9) (fun v8 sh8 V8 n8 hp8 => ?_)
  obtain ⟨ea8, eb8, ec8, hM8, hth, hO8⟩ := hp8
  rw [mk_if] at ea8
  cases ea8
  obtain rfl := eb8.symm
  obtain rfl := ec8.symm
  have hF := lw_fin e1 e2 e3 hL9 hm9 hM8 hO8 ho9 hJ'
  refine fs_istore (pc2 := 638) (kl_at_8 rfl) rfl rfl (Nat.le_of_ble_eq_true rfl) ?_
  refine fs_aload_n (pc2 := 639) (kl_at_8 rfl) rfl rfl rfl ?_
  refine lw_callv (dc := 0) (ds := 0) (pc2 := 642) (kl_at_8 rfl) rfl rfl rfl ⟨rfl, rfl⟩ (Nat.le_of_ble_eq_true rfl) rfl rfl (by omega) (by omega) (fs_rcv rfl m3) (m_thrown hm9) (fun v9 sh9 V9 n9 hp9 => ?_)
  obtain ⟨ea9, eb9, ec9, ed9⟩ := hp9
  cases ea9
  obtain rfl := eb9.symm
  obtain rfl := ec9.symm
  obtain rfl := ed9.symm
  rw [hth]
  refine fs_iload (pc2 := 644) (kl_at_8 rfl) rfl rfl rfl ?_
  refine fs_icmp_eq (pc2 := 647) (kl_at_8 rfl) rfl rfl (fun h644 => ?_) (fun h644 => absurd rfl h644)
  refine fs_iload (pc2 := 651) (kl_at_8 rfl) rfl rfl rfl ?_
  refine fs_if_ne (pc2 := 654) (kl_at_8 rfl) rfl rfl (fun h651 => ?_) (fun h651 => ?_)
  · refine fs_goto (kl_at_8 rfl) rfl ?_
    first | exact hN [(5, .int _)] _ _ _ _ _ (Or.inr (Or.inl ⟨_, rfl⟩)) hF (by omega) (by omega) | exact hN [(5, .int _), (6, .int _)] _ _ _ _ _ (Or.inr (Or.inr ⟨_, _, rfl⟩)) hF (by omega) (by omega) | exact hN [] _ _ _ _ _ (Or.inl rfl) hF (by omega) (by omega)
  · have hk0 : k = 0 := c_eq (a := k) (b := 0) h651 rfl rfl (by omega) (by omega)
    rw [if_pos hk0]
    refine fs_aload_n (pc2 := 655) (kl_at_8 rfl) rfl rfl rfl ?_
    refine fs_iconst (pc2 := 656) (kl_at_8 rfl) rfl rfl ?_
    refine fs_lald (pc2 := 657) (kl_at_8 rfl) rfl rfl ho9 (vp_in_nI (n := 0) (by decide) (by decide)) ?_
    refine fs_iload (pc2 := 659) (kl_at_8 rfl) rfl rfl rfl ?_
    refine fs_i2l (pc2 := 660) (kl_at_8 rfl) rfl rfl ?_
    refine fs_lcmp (pc2 := 661) (kl_at_8 rfl) rfl rfl ?_
    rw [hv9 hk0]
    refine fs_if_eq (pc2 := 664) (kl_at_8 rfl) rfl rfl (fun h661 => ?_) (fun h661 => absurd (lg_cmp_self _) h661)
    refine fs_goto (kl_at_8 rfl) rfl ?_
    first | exact hN [(5, .int _)] _ _ _ _ _ (Or.inr (Or.inl ⟨_, rfl⟩)) hF (by omega) (by omega) | exact hN [(5, .int _), (6, .int _)] _ _ _ _ _ (Or.inr (Or.inr ⟨_, _, rfl⟩)) hF (by omega) (by omega) | exact hN [] _ _ _ _ _ (Or.inl rfl) hF (by omega) (by omega)
set_option maxRecDepth 100000 in
set_option maxHeartbeats 4000000 in
theorem lc_lose_0 (hext : ev_HX l D cy zF ext) (hst : l.stackTraces = false) (hA : AlOK cy z0 a0 ext) (e1 : mb = c + 374) (e2 : oo = c + 420) (e3 : K = c + 421) (hI : LI K a0 c mb oo sh V n j) (hj : j < 512) (hx : 6 * j + 6 ≤ Lx) (hLx : Lx ≤ 3072) (hc : cc + 4 ≤ 601024) (hsl : sl + 740 ≤ 7293034) (hN : ∀ T' sh' V' n' c' sl', TS T' → LI K a0 c mb oo sh' V' n' (j + 1) → c' ≤ cc + 4 → sl' ≤ sl + 740 → lQ l D cy zF z0 ext b Lx xs Ret 1053 ([(0, .ref b), (1, .ref (z0 + c)), (2, .ref (z0 + mb)), (3, .ref (z0 + oo)), (4, .int (nI (6 * j)))] ++ T') [] sh' V' n' c' sl') : lQ l D cy zF z0 ext b Lx xs Ret 669 ([(0, .ref b), (1, .ref (z0 + c)), (2, .ref (z0 + mb)), (3, .ref (z0 + oo)), (4, .int (nI (6 * j)))]) [] sh V n cc sl := by
  obtain ⟨E, R, S, HH, g, hL, hm, hM, ho, hJ⟩ := hI
  obtain ⟨m1, m2⟩ := id hm
  have hcl := hL.1
  unfold isCL at hcl
  have hKn := hL.Kn
  have hq1 : vp_in (nI (6 * j) + 1) Lx := by rw [show (nI (6 * j) + 1 : Int32) = nI (6 * j + 1) from by rw [show (1 : Int32) = nI 1 from rfl, nI_add]]; exact vp_in_nI (by omega) (by omega)
  obtain ⟨k, x, S', HH', hkm, hJ', hsame, hC, hMP⟩ := tie_lose (K := K) (c := c) (mb := mb) (S := S) hext hst hA hJ hj (u := (xs (nI (6 * j) + 1).toNatClampNeg))
  refine fs_aload_n (pc2 := 670) (kl_at_9 rfl) rfl rfl rfl ?_
  refine fs_aload_n (pc2 := 671) (kl_at_9 rfl) rfl rfl rfl ?_
  refine fs_iload (pc2 := 673) (kl_at_9 rfl) rfl rfl rfl ?_
  refine fs_iconst (pc2 := 674) (kl_at_9 rfl) rfl rfl ?_
  refine fs_iadd (pc2 := 675) (kl_at_9 rfl) rfl rfl ?_
  refine lw_scr (pc2 := 676) (kl_at_9 rfl) rfl hq1 ?_
  refine fs_aload_n (pc2 := 677) (kl_at_9 rfl) rfl rfl rfl ?_
  refine lw_hlp (dc := 4) (ds := 740) (pc2 := 680) (kl_at_9 rfl) rfl kw_L_lose (h_lose hcl hkm (fun v sh' V' n' h => ⟨h.1, by rw [h.2.2.2.2 oo (by omega) (by omega)]; exact ho⟩) (hC sh V n E R hL)) rfl rfl (Nat.le_of_ble_eq_true rfl) rfl rfl hc hsl (fun v9 sh9 V9 n9 hp9 => ?_)
  obtain ⟨ea9, hp9⟩ := hp9
  cases ea9
  obtain ⟨E9, R9, g9, hL9, hm9, hM9, ho9, hv9⟩ := lw_aft (a := mkI x) e1 e2 e3 hL hm hM ho hsame hp9
  obtain ⟨m3, m4⟩ := id hm9
  refine fs_istore (pc2 := 682) (kl_at_9 rfl) rfl rfl (Nat.le_of_ble_eq_true rfl) ?_
  refine fs_aload_n (pc2 := 683) (kl_at_9 rfl) rfl rfl rfl ?_
  refine fs_aload_n (pc2 := 684) (kl_at_9 rfl) rfl rfl rfl ?_
  refine fs_iload (pc2 := 686) (kl_at_9 rfl) rfl rfl rfl ?_
  refine fs_iconst (pc2 := 687) (kl_at_9 rfl) rfl rfl ?_
  refine fs_iadd (pc2 := 688) (kl_at_9 rfl) rfl rfl ?_
  refine lw_scr (pc2 := 689) (kl_at_9 rfl) rfl hq1 ?_
  refine lw_callv (dc := 0) (ds := 0) (pc2 := 692) (kl_at_9 rfl) rfl rfl rfl ⟨rfl, rfl⟩ (Nat.le_of_ble_eq_true rfl) rfl rfl (by omega) (by omega) (fs_rcv rfl m3) (hMP _ _ _ hm9 hM9) (fun v8 sh8 V8 n8 hp8 => ?_)
  obtain ⟨ea8, eb8, ec8, hM8, hth, hO8⟩ := hp8
  rw [mk_if] at ea8
  cases ea8
  obtain rfl := eb8.symm
  obtain rfl := ec8.symm
  have hF := lw_fin e1 e2 e3 hL9 hm9 hM8 hO8 ho9 hJ'
  refine fs_istore (pc2 := 694) (kl_at_9 rfl) rfl rfl (Nat.le_of_ble_eq_true rfl) ?_
  refine fs_aload_n (pc2 := 695) (kl_at_9 rfl) rfl rfl rfl ?_
  refine lw_callv (dc := 0) (ds := 0) (pc2 := 698) (kl_at_9 rfl) rfl rfl rfl ⟨rfl, rfl⟩ (Nat.le_of_ble_eq_true rfl) rfl rfl (by omega) (by omega) (fs_rcv rfl m3) (m_thrown hm9) (fun v9 sh9 V9 n9 hp9 => ?_)
  obtain ⟨ea9, eb9, ec9, ed9⟩ := hp9
  cases ea9
  obtain rfl := eb9.symm
  obtain rfl := ec9.symm
  obtain rfl := ed9.symm
  rw [hth]
  refine fs_iload (pc2 := 700) (kl_at_9 rfl) rfl rfl rfl ?_
  refine fs_icmp_eq (pc2 := 703) (kl_at_9 rfl) rfl rfl (fun h700 => ?_) (fun h700 => absurd rfl h700)
  refine fs_iload (pc2 := 707) (kl_at_9 rfl) rfl rfl rfl ?_
  refine fs_if_ne (pc2 := 710) (kl_at_9 rfl) rfl rfl (fun h707 => ?_) (fun h707 => ?_)
  · refine fs_goto (kl_at_9 rfl) rfl ?_
    first | exact hN [(5, .int _)] _ _ _ _ _ (Or.inr (Or.inl ⟨_, rfl⟩)) hF (by omega) (by omega) | exact hN [(5, .int _), (6, .int _)] _ _ _ _ _ (Or.inr (Or.inr ⟨_, _, rfl⟩)) hF (by omega) (by omega) | exact hN [] _ _ _ _ _ (Or.inl rfl) hF (by omega) (by omega)
  · have hk0 : k = 0 := c_eq (a := k) (b := 0) h707 rfl rfl (by omega) (by omega)
    rw [if_pos hk0]
    refine fs_aload_n (pc2 := 711) (kl_at_9 rfl) rfl rfl rfl ?_
    refine fs_iconst (pc2 := 712) (kl_at_9 rfl) rfl rfl ?_
    refine fs_lald (pc2 := 713) (kl_at_9 rfl) rfl rfl ho9 (vp_in_nI (n := 0) (by decide) (by decide)) ?_
    refine fs_iload (pc2 := 715) (kl_at_9 rfl) rfl rfl rfl ?_
    refine fs_if_eq (pc2 := 718) (kl_at_9 rfl) rfl rfl (fun h715 => ?_) (fun h715 => ?_)
    · have hv8 := hv9 hk0
      rw [if_pos h715] at hv8
      refine fs_lconst (pc2 := 723) (kl_at_9 rfl) rfl rfl ?_
      refine fs_lcmp (pc2 := 724) (kl_at_9 rfl) rfl rfl ?_
      rw [hv8]
      refine fs_if_eq (pc2 := 727) (kl_at_9 rfl) rfl rfl (fun h724 => ?_) (fun h724 => absurd (lg_cmp_self _) h724)
      refine fs_goto (kl_at_9 rfl) rfl ?_
      first | exact hN [(5, .int _)] _ _ _ _ _ (Or.inr (Or.inl ⟨_, rfl⟩)) hF (by omega) (by omega) | exact hN [(5, .int _), (6, .int _)] _ _ _ _ _ (Or.inr (Or.inr ⟨_, _, rfl⟩)) hF (by omega) (by omega) | exact hN [] _ _ _ _ _ (Or.inl rfl) hF (by omega) (by omega)
    · have hv8 := hv9 hk0
      rw [if_neg h715] at hv8
      refine fs_lconst (pc2 := 719) (kl_at_9 rfl) rfl rfl ?_
      refine fs_goto (kl_at_9 rfl) rfl ?_
      refine fs_lcmp (pc2 := 724) (kl_at_9 rfl) rfl rfl ?_
      rw [hv8]
      refine fs_if_eq (pc2 := 727) (kl_at_9 rfl) rfl rfl (fun h724 => ?_) (fun h724 => absurd (lg_cmp_self _) h724)
      refine fs_goto (kl_at_9 rfl) rfl ?_
      first | exact hN [(5, .int _)] _ _ _ _ _ (Or.inr (Or.inl ⟨_, rfl⟩)) hF (by omega) (by omega) | exact hN [(5, .int _), (6, .int _)] _ _ _ _ _ (Or.inr (Or.inr ⟨_, _, rfl⟩)) hF (by omega) (by omega) | exact hN [] _ _ _ _ _ (Or.inl rfl) hF (by omega) (by omega)
set_option maxRecDepth 100000 in
set_option maxHeartbeats 4000000 in
theorem lc_lose_1 {u5 : Int32} (hext : ev_HX l D cy zF ext) (hst : l.stackTraces = false) (hA : AlOK cy z0 a0 ext) (e1 : mb = c + 374) (e2 : oo = c + 420) (e3 : K = c + 421) (hI : LI K a0 c mb oo sh V n j) (hj : j < 512) (hx : 6 * j + 6 ≤ Lx) (hLx : Lx ≤ 3072) (hc : cc + 4 ≤ 601024) (hsl : sl + 740 ≤ 7293034) (hN : ∀ T' sh' V' n' c' sl', TS T' → LI K a0 c mb oo sh' V' n' (j + 1) → c' ≤ cc + 4 → sl' ≤ sl + 740 → lQ l D cy zF z0 ext b Lx xs Ret 1053 ([(0, .ref b), (1, .ref (z0 + c)), (2, .ref (z0 + mb)), (3, .ref (z0 + oo)), (4, .int (nI (6 * j)))] ++ T') [] sh' V' n' c' sl') : lQ l D cy zF z0 ext b Lx xs Ret 669 ([(0, .ref b), (1, .ref (z0 + c)), (2, .ref (z0 + mb)), (3, .ref (z0 + oo)), (4, .int (nI (6 * j))), (5, .int u5)]) [] sh V n cc sl := by
  obtain ⟨E, R, S, HH, g, hL, hm, hM, ho, hJ⟩ := hI
  obtain ⟨m1, m2⟩ := id hm
  have hcl := hL.1
  unfold isCL at hcl
  have hKn := hL.Kn
  have hq1 : vp_in (nI (6 * j) + 1) Lx := by rw [show (nI (6 * j) + 1 : Int32) = nI (6 * j + 1) from by rw [show (1 : Int32) = nI 1 from rfl, nI_add]]; exact vp_in_nI (by omega) (by omega)
  obtain ⟨k, x, S', HH', hkm, hJ', hsame, hC, hMP⟩ := tie_lose (K := K) (c := c) (mb := mb) (S := S) hext hst hA hJ hj (u := (xs (nI (6 * j) + 1).toNatClampNeg))
  refine fs_aload_n (pc2 := 670) (kl_at_9 rfl) rfl rfl rfl ?_
  refine fs_aload_n (pc2 := 671) (kl_at_9 rfl) rfl rfl rfl ?_
  refine fs_iload (pc2 := 673) (kl_at_9 rfl) rfl rfl rfl ?_
  refine fs_iconst (pc2 := 674) (kl_at_9 rfl) rfl rfl ?_
  refine fs_iadd (pc2 := 675) (kl_at_9 rfl) rfl rfl ?_
  refine lw_scr (pc2 := 676) (kl_at_9 rfl) rfl hq1 ?_
  refine fs_aload_n (pc2 := 677) (kl_at_9 rfl) rfl rfl rfl ?_
  refine lw_hlp (dc := 4) (ds := 740) (pc2 := 680) (kl_at_9 rfl) rfl kw_L_lose (h_lose hcl hkm (fun v sh' V' n' h => ⟨h.1, by rw [h.2.2.2.2 oo (by omega) (by omega)]; exact ho⟩) (hC sh V n E R hL)) rfl rfl (Nat.le_of_ble_eq_true rfl) rfl rfl hc hsl (fun v9 sh9 V9 n9 hp9 => ?_)
  obtain ⟨ea9, hp9⟩ := hp9
  cases ea9
  obtain ⟨E9, R9, g9, hL9, hm9, hM9, ho9, hv9⟩ := lw_aft (a := mkI x) e1 e2 e3 hL hm hM ho hsame hp9
  obtain ⟨m3, m4⟩ := id hm9
  refine fs_istore (pc2 := 682) (kl_at_9 rfl) rfl rfl (Nat.le_of_ble_eq_true rfl) ?_
  refine fs_aload_n (pc2 := 683) (kl_at_9 rfl) rfl rfl rfl ?_
  refine fs_aload_n (pc2 := 684) (kl_at_9 rfl) rfl rfl rfl ?_
  refine fs_iload (pc2 := 686) (kl_at_9 rfl) rfl rfl rfl ?_
  refine fs_iconst (pc2 := 687) (kl_at_9 rfl) rfl rfl ?_
  refine fs_iadd (pc2 := 688) (kl_at_9 rfl) rfl rfl ?_
  refine lw_scr (pc2 := 689) (kl_at_9 rfl) rfl hq1 ?_
  refine lw_callv (dc := 0) (ds := 0) (pc2 := 692) (kl_at_9 rfl) rfl rfl rfl ⟨rfl, rfl⟩ (Nat.le_of_ble_eq_true rfl) rfl rfl (by omega) (by omega) (fs_rcv rfl m3) (hMP _ _ _ hm9 hM9) (fun v8 sh8 V8 n8 hp8 => ?_)
  obtain ⟨ea8, eb8, ec8, hM8, hth, hO8⟩ := hp8
  rw [mk_if] at ea8
  cases ea8
  obtain rfl := eb8.symm
  obtain rfl := ec8.symm
  have hF := lw_fin e1 e2 e3 hL9 hm9 hM8 hO8 ho9 hJ'
  refine fs_istore (pc2 := 694) (kl_at_9 rfl) rfl rfl (Nat.le_of_ble_eq_true rfl) ?_
  refine fs_aload_n (pc2 := 695) (kl_at_9 rfl) rfl rfl rfl ?_
  refine lw_callv (dc := 0) (ds := 0) (pc2 := 698) (kl_at_9 rfl) rfl rfl rfl ⟨rfl, rfl⟩ (Nat.le_of_ble_eq_true rfl) rfl rfl (by omega) (by omega) (fs_rcv rfl m3) (m_thrown hm9) (fun v9 sh9 V9 n9 hp9 => ?_)
  obtain ⟨ea9, eb9, ec9, ed9⟩ := hp9
  cases ea9
  obtain rfl := eb9.symm
  obtain rfl := ec9.symm
  obtain rfl := ed9.symm
  rw [hth]
  refine fs_iload (pc2 := 700) (kl_at_9 rfl) rfl rfl rfl ?_
  refine fs_icmp_eq (pc2 := 703) (kl_at_9 rfl) rfl rfl (fun h700 => ?_) (fun h700 => absurd rfl h700)
  refine fs_iload (pc2 := 707) (kl_at_9 rfl) rfl rfl rfl ?_
  refine fs_if_ne (pc2 := 710) (kl_at_9 rfl) rfl rfl (fun h707 => ?_) (fun h707 => ?_)
  · refine fs_goto (kl_at_9 rfl) rfl ?_
    first | exact hN [(5, .int _)] _ _ _ _ _ (Or.inr (Or.inl ⟨_, rfl⟩)) hF (by omega) (by omega) | exact hN [(5, .int _), (6, .int _)] _ _ _ _ _ (Or.inr (Or.inr ⟨_, _, rfl⟩)) hF (by omega) (by omega) | exact hN [] _ _ _ _ _ (Or.inl rfl) hF (by omega) (by omega)
  · have hk0 : k = 0 := c_eq (a := k) (b := 0) h707 rfl rfl (by omega) (by omega)
    rw [if_pos hk0]
    refine fs_aload_n (pc2 := 711) (kl_at_9 rfl) rfl rfl rfl ?_
    refine fs_iconst (pc2 := 712) (kl_at_9 rfl) rfl rfl ?_
    refine fs_lald (pc2 := 713) (kl_at_9 rfl) rfl rfl ho9 (vp_in_nI (n := 0) (by decide) (by decide)) ?_
    refine fs_iload (pc2 := 715) (kl_at_9 rfl) rfl rfl rfl ?_
    refine fs_if_eq (pc2 := 718) (kl_at_9 rfl) rfl rfl (fun h715 => ?_) (fun h715 => ?_)
    · have hv8 := hv9 hk0
      rw [if_pos h715] at hv8
      refine fs_lconst (pc2 := 723) (kl_at_9 rfl) rfl rfl ?_
      refine fs_lcmp (pc2 := 724) (kl_at_9 rfl) rfl rfl ?_
      rw [hv8]
      refine fs_if_eq (pc2 := 727) (kl_at_9 rfl) rfl rfl (fun h724 => ?_) (fun h724 => absurd (lg_cmp_self _) h724)
      refine fs_goto (kl_at_9 rfl) rfl ?_
      first | exact hN [(5, .int _)] _ _ _ _ _ (Or.inr (Or.inl ⟨_, rfl⟩)) hF (by omega) (by omega) | exact hN [(5, .int _), (6, .int _)] _ _ _ _ _ (Or.inr (Or.inr ⟨_, _, rfl⟩)) hF (by omega) (by omega) | exact hN [] _ _ _ _ _ (Or.inl rfl) hF (by omega) (by omega)
    · have hv8 := hv9 hk0
      rw [if_neg h715] at hv8
      refine fs_lconst (pc2 := 719) (kl_at_9 rfl) rfl rfl ?_
      refine fs_goto (kl_at_9 rfl) rfl ?_
      refine fs_lcmp (pc2 := 724) (kl_at_9 rfl) rfl rfl ?_
      rw [hv8]
      refine fs_if_eq (pc2 := 727) (kl_at_9 rfl) rfl rfl (fun h724 => ?_) (fun h724 => absurd (lg_cmp_self _) h724)
      refine fs_goto (kl_at_9 rfl) rfl ?_
      first | exact hN [(5, .int _)] _ _ _ _ _ (Or.inr (Or.inl ⟨_, rfl⟩)) hF (by omega) (by omega) | exact hN [(5, .int _), (6, .int _)] _ _ _ _ _ (Or.inr (Or.inr ⟨_, _, rfl⟩)) hF (by omega) (by omega) | exact hN [] _ _ _ _ _ (Or.inl rfl) hF (by omega) (by omega)
set_option maxRecDepth 100000 in
set_option maxHeartbeats 4000000 in
theorem lc_lose_2 {u5 u6 : Int32} (hext : ev_HX l D cy zF ext) (hst : l.stackTraces = false) (hA : AlOK cy z0 a0 ext) (e1 : mb = c + 374) (e2 : oo = c + 420) (e3 : K = c + 421) (hI : LI K a0 c mb oo sh V n j) (hj : j < 512) (hx : 6 * j + 6 ≤ Lx) (hLx : Lx ≤ 3072) (hc : cc + 4 ≤ 601024) (hsl : sl + 740 ≤ 7293034) (hN : ∀ T' sh' V' n' c' sl', TS T' → LI K a0 c mb oo sh' V' n' (j + 1) → c' ≤ cc + 4 → sl' ≤ sl + 740 → lQ l D cy zF z0 ext b Lx xs Ret 1053 ([(0, .ref b), (1, .ref (z0 + c)), (2, .ref (z0 + mb)), (3, .ref (z0 + oo)), (4, .int (nI (6 * j)))] ++ T') [] sh' V' n' c' sl') : lQ l D cy zF z0 ext b Lx xs Ret 669 ([(0, .ref b), (1, .ref (z0 + c)), (2, .ref (z0 + mb)), (3, .ref (z0 + oo)), (4, .int (nI (6 * j))), (5, .int u5), (6, .int u6)]) [] sh V n cc sl := by
  obtain ⟨E, R, S, HH, g, hL, hm, hM, ho, hJ⟩ := hI
  obtain ⟨m1, m2⟩ := id hm
  have hcl := hL.1
  unfold isCL at hcl
  have hKn := hL.Kn
  have hq1 : vp_in (nI (6 * j) + 1) Lx := by rw [show (nI (6 * j) + 1 : Int32) = nI (6 * j + 1) from by rw [show (1 : Int32) = nI 1 from rfl, nI_add]]; exact vp_in_nI (by omega) (by omega)
  obtain ⟨k, x, S', HH', hkm, hJ', hsame, hC, hMP⟩ := tie_lose (K := K) (c := c) (mb := mb) (S := S) hext hst hA hJ hj (u := (xs (nI (6 * j) + 1).toNatClampNeg))
  refine fs_aload_n (pc2 := 670) (kl_at_9 rfl) rfl rfl rfl ?_
  refine fs_aload_n (pc2 := 671) (kl_at_9 rfl) rfl rfl rfl ?_
  refine fs_iload (pc2 := 673) (kl_at_9 rfl) rfl rfl rfl ?_
  refine fs_iconst (pc2 := 674) (kl_at_9 rfl) rfl rfl ?_
  refine fs_iadd (pc2 := 675) (kl_at_9 rfl) rfl rfl ?_
  refine lw_scr (pc2 := 676) (kl_at_9 rfl) rfl hq1 ?_
  refine fs_aload_n (pc2 := 677) (kl_at_9 rfl) rfl rfl rfl ?_
  refine lw_hlp (dc := 4) (ds := 740) (pc2 := 680) (kl_at_9 rfl) rfl kw_L_lose (h_lose hcl hkm (fun v sh' V' n' h => ⟨h.1, by rw [h.2.2.2.2 oo (by omega) (by omega)]; exact ho⟩) (hC sh V n E R hL)) rfl rfl (Nat.le_of_ble_eq_true rfl) rfl rfl hc hsl (fun v9 sh9 V9 n9 hp9 => ?_)
  obtain ⟨ea9, hp9⟩ := hp9
  cases ea9
  obtain ⟨E9, R9, g9, hL9, hm9, hM9, ho9, hv9⟩ := lw_aft (a := mkI x) e1 e2 e3 hL hm hM ho hsame hp9
  obtain ⟨m3, m4⟩ := id hm9
  refine fs_istore (pc2 := 682) (kl_at_9 rfl) rfl rfl (Nat.le_of_ble_eq_true rfl) ?_
  refine fs_aload_n (pc2 := 683) (kl_at_9 rfl) rfl rfl rfl ?_
  refine fs_aload_n (pc2 := 684) (kl_at_9 rfl) rfl rfl rfl ?_
  refine fs_iload (pc2 := 686) (kl_at_9 rfl) rfl rfl rfl ?_
  refine fs_iconst (pc2 := 687) (kl_at_9 rfl) rfl rfl ?_
  refine fs_iadd (pc2 := 688) (kl_at_9 rfl) rfl rfl ?_
  refine lw_scr (pc2 := 689) (kl_at_9 rfl) rfl hq1 ?_
  refine lw_callv (dc := 0) (ds := 0) (pc2 := 692) (kl_at_9 rfl) rfl rfl rfl ⟨rfl, rfl⟩ (Nat.le_of_ble_eq_true rfl) rfl rfl (by omega) (by omega) (fs_rcv rfl m3) (hMP _ _ _ hm9 hM9) (fun v8 sh8 V8 n8 hp8 => ?_)
  obtain ⟨ea8, eb8, ec8, hM8, hth, hO8⟩ := hp8
  rw [mk_if] at ea8
  cases ea8
  obtain rfl := eb8.symm
  obtain rfl := ec8.symm
  have hF := lw_fin e1 e2 e3 hL9 hm9 hM8 hO8 ho9 hJ'
  refine fs_istore (pc2 := 694) (kl_at_9 rfl) rfl rfl (Nat.le_of_ble_eq_true rfl) ?_
  refine fs_aload_n (pc2 := 695) (kl_at_9 rfl) rfl rfl rfl ?_
  refine lw_callv (dc := 0) (ds := 0) (pc2 := 698) (kl_at_9 rfl) rfl rfl rfl ⟨rfl, rfl⟩ (Nat.le_of_ble_eq_true rfl) rfl rfl (by omega) (by omega) (fs_rcv rfl m3) (m_thrown hm9) (fun v9 sh9 V9 n9 hp9 => ?_)
  obtain ⟨ea9, eb9, ec9, ed9⟩ := hp9
  cases ea9
  obtain rfl := eb9.symm
  obtain rfl := ec9.symm
  obtain rfl := ed9.symm
  rw [hth]
  refine fs_iload (pc2 := 700) (kl_at_9 rfl) rfl rfl rfl ?_
  refine fs_icmp_eq (pc2 := 703) (kl_at_9 rfl) rfl rfl (fun h700 => ?_) (fun h700 => absurd rfl h700)
  refine fs_iload (pc2 := 707) (kl_at_9 rfl) rfl rfl rfl ?_
  refine fs_if_ne (pc2 := 710) (kl_at_9 rfl) rfl rfl (fun h707 => ?_) (fun h707 => ?_)
  · refine fs_goto (kl_at_9 rfl) rfl ?_
    first | exact hN [(5, .int _)] _ _ _ _ _ (Or.inr (Or.inl ⟨_, rfl⟩)) hF (by omega) (by omega) | exact hN [(5, .int _), (6, .int _)] _ _ _ _ _ (Or.inr (Or.inr ⟨_, _, rfl⟩)) hF (by omega) (by omega) | exact hN [] _ _ _ _ _ (Or.inl rfl) hF (by omega) (by omega)
  · have hk0 : k = 0 := c_eq (a := k) (b := 0) h707 rfl rfl (by omega) (by omega)
    rw [if_pos hk0]
    refine fs_aload_n (pc2 := 711) (kl_at_9 rfl) rfl rfl rfl ?_
    refine fs_iconst (pc2 := 712) (kl_at_9 rfl) rfl rfl ?_
    refine fs_lald (pc2 := 713) (kl_at_9 rfl) rfl rfl ho9 (vp_in_nI (n := 0) (by decide) (by decide)) ?_
    refine fs_iload (pc2 := 715) (kl_at_9 rfl) rfl rfl rfl ?_
    refine fs_if_eq (pc2 := 718) (kl_at_9 rfl) rfl rfl (fun h715 => ?_) (fun h715 => ?_)
    · have hv8 := hv9 hk0
      rw [if_pos h715] at hv8
      refine fs_lconst (pc2 := 723) (kl_at_9 rfl) rfl rfl ?_
      refine fs_lcmp (pc2 := 724) (kl_at_9 rfl) rfl rfl ?_
      rw [hv8]
      refine fs_if_eq (pc2 := 727) (kl_at_9 rfl) rfl rfl (fun h724 => ?_) (fun h724 => absurd (lg_cmp_self _) h724)
      refine fs_goto (kl_at_9 rfl) rfl ?_
      first | exact hN [(5, .int _)] _ _ _ _ _ (Or.inr (Or.inl ⟨_, rfl⟩)) hF (by omega) (by omega) | exact hN [(5, .int _), (6, .int _)] _ _ _ _ _ (Or.inr (Or.inr ⟨_, _, rfl⟩)) hF (by omega) (by omega) | exact hN [] _ _ _ _ _ (Or.inl rfl) hF (by omega) (by omega)
    · have hv8 := hv9 hk0
      rw [if_neg h715] at hv8
      refine fs_lconst (pc2 := 719) (kl_at_9 rfl) rfl rfl ?_
      refine fs_goto (kl_at_9 rfl) rfl ?_
      refine fs_lcmp (pc2 := 724) (kl_at_9 rfl) rfl rfl ?_
      rw [hv8]
      refine fs_if_eq (pc2 := 727) (kl_at_9 rfl) rfl rfl (fun h724 => ?_) (fun h724 => absurd (lg_cmp_self _) h724)
      refine fs_goto (kl_at_9 rfl) rfl ?_
      first | exact hN [(5, .int _)] _ _ _ _ _ (Or.inr (Or.inl ⟨_, rfl⟩)) hF (by omega) (by omega) | exact hN [(5, .int _), (6, .int _)] _ _ _ _ _ (Or.inr (Or.inr ⟨_, _, rfl⟩)) hF (by omega) (by omega) | exact hN [] _ _ _ _ _ (Or.inl rfl) hF (by omega) (by omega)
set_option maxRecDepth 100000 in
set_option maxHeartbeats 4000000 in
theorem lc_inject_0 (hext : ev_HX l D cy zF ext) (hst : l.stackTraces = false) (hA : AlOK cy z0 a0 ext) (e1 : mb = c + 374) (e2 : oo = c + 420) (e3 : K = c + 421) (hI : LI K a0 c mb oo sh V n j) (hj : j < 512) (hx : 6 * j + 6 ≤ Lx) (hLx : Lx ≤ 3072) (hc : cc + 4 ≤ 601024) (hsl : sl + 740 ≤ 7293034) (hN : ∀ T' sh' V' n' c' sl', TS T' → LI K a0 c mb oo sh' V' n' (j + 1) → c' ≤ cc + 4 → sl' ≤ sl + 740 → lQ l D cy zF z0 ext b Lx xs Ret 1053 ([(0, .ref b), (1, .ref (z0 + c)), (2, .ref (z0 + mb)), (3, .ref (z0 + oo)), (4, .int (nI (6 * j)))] ++ T') [] sh' V' n' c' sl') : lQ l D cy zF z0 ext b Lx xs Ret 732 ([(0, .ref b), (1, .ref (z0 + c)), (2, .ref (z0 + mb)), (3, .ref (z0 + oo)), (4, .int (nI (6 * j)))]) [] sh V n cc sl := by
  obtain ⟨E, R, S, HH, g, hL, hm, hM, ho, hJ⟩ := hI
  obtain ⟨m1, m2⟩ := id hm
  have hcl := hL.1
  unfold isCL at hcl
  have hKn := hL.Kn
  have hq1 : vp_in (nI (6 * j) + 1) Lx := by rw [show (nI (6 * j) + 1 : Int32) = nI (6 * j + 1) from by rw [show (1 : Int32) = nI 1 from rfl, nI_add]]; exact vp_in_nI (by omega) (by omega)
  have hq2 : vp_in (nI (6 * j) + 2) Lx := by rw [show (nI (6 * j) + 2 : Int32) = nI (6 * j + 2) from by rw [show (2 : Int32) = nI 2 from rfl, nI_add]]; exact vp_in_nI (by omega) (by omega)
  have hq3 : vp_in (nI (6 * j) + 3) Lx := by rw [show (nI (6 * j) + 3 : Int32) = nI (6 * j + 3) from by rw [show (3 : Int32) = nI 3 from rfl, nI_add]]; exact vp_in_nI (by omega) (by omega)
  obtain ⟨k, x, S', HH', hkm, hJ', hsame, hC, hMP⟩ := tie_inject (K := K) (c := c) (mb := mb) (S := S) hext hst hJ hj (u := (xs (nI (6 * j) + 1).toNatClampNeg)) (w := (xs (nI (6 * j) + 2).toNatClampNeg)) (x := (xs (nI (6 * j) + 3).toNatClampNeg))
  refine fs_aload_n (pc2 := 733) (kl_at_10 rfl) rfl rfl rfl ?_
  refine fs_aload_n (pc2 := 734) (kl_at_10 rfl) rfl rfl rfl ?_
  refine fs_iload (pc2 := 736) (kl_at_10 rfl) rfl rfl rfl ?_
  refine fs_iconst (pc2 := 737) (kl_at_10 rfl) rfl rfl ?_
  refine fs_iadd (pc2 := 738) (kl_at_10 rfl) rfl rfl ?_
  refine lw_scr (pc2 := 739) (kl_at_10 rfl) rfl hq1 ?_
  refine fs_aload_n (pc2 := 740) (kl_at_10 rfl) rfl rfl rfl ?_
  refine fs_iload (pc2 := 742) (kl_at_10 rfl) rfl rfl rfl ?_
  refine fs_iconst (pc2 := 743) (kl_at_10 rfl) rfl rfl ?_
  refine fs_iadd (pc2 := 744) (kl_at_10 rfl) rfl rfl ?_
  refine lw_scr (pc2 := 745) (kl_at_10 rfl) rfl hq2 ?_
  refine fs_aload_n (pc2 := 746) (kl_at_10 rfl) rfl rfl rfl ?_
  refine fs_iload (pc2 := 748) (kl_at_10 rfl) rfl rfl rfl ?_
  refine fs_iconst (pc2 := 749) (kl_at_10 rfl) rfl rfl ?_
  refine fs_iadd (pc2 := 750) (kl_at_10 rfl) rfl rfl ?_
  refine lw_scr (pc2 := 751) (kl_at_10 rfl) rfl hq3 ?_
  refine fs_aload_n (pc2 := 752) (kl_at_10 rfl) rfl rfl rfl ?_
  refine lw_hlp (dc := 4) (ds := 740) (pc2 := 755) (kl_at_10 rfl) rfl kw_L_inject (h_inject hcl hkm (fun v sh' V' n' h => ⟨h.1, by rw [h.2.2.2.2 oo (by omega) (by omega)]; exact ho⟩) (hC sh V n E R hL)) rfl rfl (Nat.le_of_ble_eq_true rfl) rfl rfl hc hsl (fun v9 sh9 V9 n9 hp9 => ?_)
  obtain ⟨ea9, hp9⟩ := hp9
  cases ea9
  obtain ⟨E9, R9, g9, hL9, hm9, hM9, ho9, hv9⟩ := lw_aft (a := mkI x) e1 e2 e3 hL hm hM ho hsame hp9
  obtain ⟨m3, m4⟩ := id hm9
  refine fs_istore (pc2 := 757) (kl_at_10 rfl) rfl rfl (Nat.le_of_ble_eq_true rfl) ?_
  refine fs_aload_n (pc2 := 758) (kl_at_10 rfl) rfl rfl rfl ?_
  refine fs_aload_n (pc2 := 759) (kl_at_10 rfl) rfl rfl rfl ?_
  refine fs_iload (pc2 := 761) (kl_at_10 rfl) rfl rfl rfl ?_
  refine fs_iconst (pc2 := 762) (kl_at_10 rfl) rfl rfl ?_
  refine fs_iadd (pc2 := 763) (kl_at_10 rfl) rfl rfl ?_
  refine lw_scr (pc2 := 764) (kl_at_10 rfl) rfl hq1 ?_
  refine fs_aload_n (pc2 := 765) (kl_at_10 rfl) rfl rfl rfl ?_
  refine fs_iload (pc2 := 767) (kl_at_10 rfl) rfl rfl rfl ?_
  refine fs_iconst (pc2 := 768) (kl_at_10 rfl) rfl rfl ?_
  refine fs_iadd (pc2 := 769) (kl_at_10 rfl) rfl rfl ?_
  refine lw_scr (pc2 := 770) (kl_at_10 rfl) rfl hq2 ?_
  refine fs_aload_n (pc2 := 771) (kl_at_10 rfl) rfl rfl rfl ?_
  refine fs_iload (pc2 := 773) (kl_at_10 rfl) rfl rfl rfl ?_
  refine fs_iconst (pc2 := 774) (kl_at_10 rfl) rfl rfl ?_
  refine fs_iadd (pc2 := 775) (kl_at_10 rfl) rfl rfl ?_
  refine lw_scr (pc2 := 776) (kl_at_10 rfl) rfl hq3 ?_
  refine lw_callv (dc := 0) (ds := 0) (pc2 := 779) (kl_at_10 rfl) rfl rfl rfl ⟨rfl, rfl⟩ (Nat.le_of_ble_eq_true rfl) rfl rfl (by omega) (by omega) (fs_rcv rfl m3) (hMP _ _ _ hm9 hM9) (fun v8 sh8 V8 n8 hp8 => ?_)
  obtain ⟨ea8, eb8, ec8, hM8, hth, hO8⟩ := hp8
  rw [mk_if] at ea8
  cases ea8
  obtain rfl := eb8.symm
  obtain rfl := ec8.symm
  have hF := lw_fin e1 e2 e3 hL9 hm9 hM8 hO8 ho9 hJ'
  refine fs_istore (pc2 := 781) (kl_at_10 rfl) rfl rfl (Nat.le_of_ble_eq_true rfl) ?_
  refine fs_aload_n (pc2 := 782) (kl_at_10 rfl) rfl rfl rfl ?_
  refine lw_callv (dc := 0) (ds := 0) (pc2 := 785) (kl_at_10 rfl) rfl rfl rfl ⟨rfl, rfl⟩ (Nat.le_of_ble_eq_true rfl) rfl rfl (by omega) (by omega) (fs_rcv rfl m3) (m_thrown hm9) (fun v9 sh9 V9 n9 hp9 => ?_)
  obtain ⟨ea9, eb9, ec9, ed9⟩ := hp9
  cases ea9
  obtain rfl := eb9.symm
  obtain rfl := ec9.symm
  obtain rfl := ed9.symm
  rw [hth]
  refine fs_iload (pc2 := 787) (kl_at_10 rfl) rfl rfl rfl ?_
  refine fs_icmp_eq (pc2 := 790) (kl_at_10 rfl) rfl rfl (fun h787 => ?_) (fun h787 => absurd rfl h787)
  refine fs_iload (pc2 := 794) (kl_at_10 rfl) rfl rfl rfl ?_
  refine fs_if_ne (pc2 := 797) (kl_at_10 rfl) rfl rfl (fun h794 => ?_) (fun h794 => ?_)
  · refine fs_goto (kl_at_10 rfl) rfl ?_
    first | exact hN [(5, .int _)] _ _ _ _ _ (Or.inr (Or.inl ⟨_, rfl⟩)) hF (by omega) (by omega) | exact hN [(5, .int _), (6, .int _)] _ _ _ _ _ (Or.inr (Or.inr ⟨_, _, rfl⟩)) hF (by omega) (by omega) | exact hN [] _ _ _ _ _ (Or.inl rfl) hF (by omega) (by omega)
  · have hk0 : k = 0 := c_eq (a := k) (b := 0) h794 rfl rfl (by omega) (by omega)
    rw [if_pos hk0]
    refine fs_aload_n (pc2 := 798) (kl_at_10 rfl) rfl rfl rfl ?_
    refine fs_iconst (pc2 := 799) (kl_at_10 rfl) rfl rfl ?_
    refine fs_lald (pc2 := 800) (kl_at_10 rfl) rfl rfl ho9 (vp_in_nI (n := 0) (by decide) (by decide)) ?_
    refine fs_iload (pc2 := 802) (kl_at_10 rfl) rfl rfl rfl ?_
    refine fs_i2l (pc2 := 803) (kl_at_10 rfl) rfl rfl ?_
    refine fs_lcmp (pc2 := 804) (kl_at_10 rfl) rfl rfl ?_
    rw [hv9 hk0]
    refine fs_if_eq (pc2 := 807) (kl_at_10 rfl) rfl rfl (fun h804 => ?_) (fun h804 => absurd (lg_cmp_self _) h804)
    refine fs_goto (kl_at_10 rfl) rfl ?_
    first | exact hN [(5, .int _)] _ _ _ _ _ (Or.inr (Or.inl ⟨_, rfl⟩)) hF (by omega) (by omega) | exact hN [(5, .int _), (6, .int _)] _ _ _ _ _ (Or.inr (Or.inr ⟨_, _, rfl⟩)) hF (by omega) (by omega) | exact hN [] _ _ _ _ _ (Or.inl rfl) hF (by omega) (by omega)
set_option maxRecDepth 100000 in
set_option maxHeartbeats 4000000 in
theorem lc_inject_1 {u5 : Int32} (hext : ev_HX l D cy zF ext) (hst : l.stackTraces = false) (hA : AlOK cy z0 a0 ext) (e1 : mb = c + 374) (e2 : oo = c + 420) (e3 : K = c + 421) (hI : LI K a0 c mb oo sh V n j) (hj : j < 512) (hx : 6 * j + 6 ≤ Lx) (hLx : Lx ≤ 3072) (hc : cc + 4 ≤ 601024) (hsl : sl + 740 ≤ 7293034) (hN : ∀ T' sh' V' n' c' sl', TS T' → LI K a0 c mb oo sh' V' n' (j + 1) → c' ≤ cc + 4 → sl' ≤ sl + 740 → lQ l D cy zF z0 ext b Lx xs Ret 1053 ([(0, .ref b), (1, .ref (z0 + c)), (2, .ref (z0 + mb)), (3, .ref (z0 + oo)), (4, .int (nI (6 * j)))] ++ T') [] sh' V' n' c' sl') : lQ l D cy zF z0 ext b Lx xs Ret 732 ([(0, .ref b), (1, .ref (z0 + c)), (2, .ref (z0 + mb)), (3, .ref (z0 + oo)), (4, .int (nI (6 * j))), (5, .int u5)]) [] sh V n cc sl := by
  obtain ⟨E, R, S, HH, g, hL, hm, hM, ho, hJ⟩ := hI
  obtain ⟨m1, m2⟩ := id hm
  have hcl := hL.1
  unfold isCL at hcl
  have hKn := hL.Kn
  have hq1 : vp_in (nI (6 * j) + 1) Lx := by rw [show (nI (6 * j) + 1 : Int32) = nI (6 * j + 1) from by rw [show (1 : Int32) = nI 1 from rfl, nI_add]]; exact vp_in_nI (by omega) (by omega)
  have hq2 : vp_in (nI (6 * j) + 2) Lx := by rw [show (nI (6 * j) + 2 : Int32) = nI (6 * j + 2) from by rw [show (2 : Int32) = nI 2 from rfl, nI_add]]; exact vp_in_nI (by omega) (by omega)
  have hq3 : vp_in (nI (6 * j) + 3) Lx := by rw [show (nI (6 * j) + 3 : Int32) = nI (6 * j + 3) from by rw [show (3 : Int32) = nI 3 from rfl, nI_add]]; exact vp_in_nI (by omega) (by omega)
  obtain ⟨k, x, S', HH', hkm, hJ', hsame, hC, hMP⟩ := tie_inject (K := K) (c := c) (mb := mb) (S := S) hext hst hJ hj (u := (xs (nI (6 * j) + 1).toNatClampNeg)) (w := (xs (nI (6 * j) + 2).toNatClampNeg)) (x := (xs (nI (6 * j) + 3).toNatClampNeg))
  refine fs_aload_n (pc2 := 733) (kl_at_10 rfl) rfl rfl rfl ?_
  refine fs_aload_n (pc2 := 734) (kl_at_10 rfl) rfl rfl rfl ?_
  refine fs_iload (pc2 := 736) (kl_at_10 rfl) rfl rfl rfl ?_
  refine fs_iconst (pc2 := 737) (kl_at_10 rfl) rfl rfl ?_
  refine fs_iadd (pc2 := 738) (kl_at_10 rfl) rfl rfl ?_
  refine lw_scr (pc2 := 739) (kl_at_10 rfl) rfl hq1 ?_
  refine fs_aload_n (pc2 := 740) (kl_at_10 rfl) rfl rfl rfl ?_
  refine fs_iload (pc2 := 742) (kl_at_10 rfl) rfl rfl rfl ?_
  refine fs_iconst (pc2 := 743) (kl_at_10 rfl) rfl rfl ?_
  refine fs_iadd (pc2 := 744) (kl_at_10 rfl) rfl rfl ?_
  refine lw_scr (pc2 := 745) (kl_at_10 rfl) rfl hq2 ?_
  refine fs_aload_n (pc2 := 746) (kl_at_10 rfl) rfl rfl rfl ?_
  refine fs_iload (pc2 := 748) (kl_at_10 rfl) rfl rfl rfl ?_
  refine fs_iconst (pc2 := 749) (kl_at_10 rfl) rfl rfl ?_
  refine fs_iadd (pc2 := 750) (kl_at_10 rfl) rfl rfl ?_
  refine lw_scr (pc2 := 751) (kl_at_10 rfl) rfl hq3 ?_
  refine fs_aload_n (pc2 := 752) (kl_at_10 rfl) rfl rfl rfl ?_
  refine lw_hlp (dc := 4) (ds := 740) (pc2 := 755) (kl_at_10 rfl) rfl kw_L_inject (h_inject hcl hkm (fun v sh' V' n' h => ⟨h.1, by rw [h.2.2.2.2 oo (by omega) (by omega)]; exact ho⟩) (hC sh V n E R hL)) rfl rfl (Nat.le_of_ble_eq_true rfl) rfl rfl hc hsl (fun v9 sh9 V9 n9 hp9 => ?_)
  obtain ⟨ea9, hp9⟩ := hp9
  cases ea9
  obtain ⟨E9, R9, g9, hL9, hm9, hM9, ho9, hv9⟩ := lw_aft (a := mkI x) e1 e2 e3 hL hm hM ho hsame hp9
  obtain ⟨m3, m4⟩ := id hm9
  refine fs_istore (pc2 := 757) (kl_at_10 rfl) rfl rfl (Nat.le_of_ble_eq_true rfl) ?_
  refine fs_aload_n (pc2 := 758) (kl_at_10 rfl) rfl rfl rfl ?_
  refine fs_aload_n (pc2 := 759) (kl_at_10 rfl) rfl rfl rfl ?_
  refine fs_iload (pc2 := 761) (kl_at_10 rfl) rfl rfl rfl ?_
  refine fs_iconst (pc2 := 762) (kl_at_10 rfl) rfl rfl ?_
  refine fs_iadd (pc2 := 763) (kl_at_10 rfl) rfl rfl ?_
  refine lw_scr (pc2 := 764) (kl_at_10 rfl) rfl hq1 ?_
  refine fs_aload_n (pc2 := 765) (kl_at_10 rfl) rfl rfl rfl ?_
  refine fs_iload (pc2 := 767) (kl_at_10 rfl) rfl rfl rfl ?_
  refine fs_iconst (pc2 := 768) (kl_at_10 rfl) rfl rfl ?_
  refine fs_iadd (pc2 := 769) (kl_at_10 rfl) rfl rfl ?_
  refine lw_scr (pc2 := 770) (kl_at_10 rfl) rfl hq2 ?_
  refine fs_aload_n (pc2 := 771) (kl_at_10 rfl) rfl rfl rfl ?_
  refine fs_iload (pc2 := 773) (kl_at_10 rfl) rfl rfl rfl ?_
  refine fs_iconst (pc2 := 774) (kl_at_10 rfl) rfl rfl ?_
  refine fs_iadd (pc2 := 775) (kl_at_10 rfl) rfl rfl ?_
  refine lw_scr (pc2 := 776) (kl_at_10 rfl) rfl hq3 ?_
  refine lw_callv (dc := 0) (ds := 0) (pc2 := 779) (kl_at_10 rfl) rfl rfl rfl ⟨rfl, rfl⟩ (Nat.le_of_ble_eq_true rfl) rfl rfl (by omega) (by omega) (fs_rcv rfl m3) (hMP _ _ _ hm9 hM9) (fun v8 sh8 V8 n8 hp8 => ?_)
  obtain ⟨ea8, eb8, ec8, hM8, hth, hO8⟩ := hp8
  rw [mk_if] at ea8
  cases ea8
  obtain rfl := eb8.symm
  obtain rfl := ec8.symm
  have hF := lw_fin e1 e2 e3 hL9 hm9 hM8 hO8 ho9 hJ'
  refine fs_istore (pc2 := 781) (kl_at_10 rfl) rfl rfl (Nat.le_of_ble_eq_true rfl) ?_
  refine fs_aload_n (pc2 := 782) (kl_at_10 rfl) rfl rfl rfl ?_
  refine lw_callv (dc := 0) (ds := 0) (pc2 := 785) (kl_at_10 rfl) rfl rfl rfl ⟨rfl, rfl⟩ (Nat.le_of_ble_eq_true rfl) rfl rfl (by omega) (by omega) (fs_rcv rfl m3) (m_thrown hm9) (fun v9 sh9 V9 n9 hp9 => ?_)
  obtain ⟨ea9, eb9, ec9, ed9⟩ := hp9
  cases ea9
  obtain rfl := eb9.symm
  obtain rfl := ec9.symm
  obtain rfl := ed9.symm
  rw [hth]
  refine fs_iload (pc2 := 787) (kl_at_10 rfl) rfl rfl rfl ?_
  refine fs_icmp_eq (pc2 := 790) (kl_at_10 rfl) rfl rfl (fun h787 => ?_) (fun h787 => absurd rfl h787)
  refine fs_iload (pc2 := 794) (kl_at_10 rfl) rfl rfl rfl ?_
  refine fs_if_ne (pc2 := 797) (kl_at_10 rfl) rfl rfl (fun h794 => ?_) (fun h794 => ?_)
  · refine fs_goto (kl_at_10 rfl) rfl ?_
    first | exact hN [(5, .int _)] _ _ _ _ _ (Or.inr (Or.inl ⟨_, rfl⟩)) hF (by omega) (by omega) | exact hN [(5, .int _), (6, .int _)] _ _ _ _ _ (Or.inr (Or.inr ⟨_, _, rfl⟩)) hF (by omega) (by omega) | exact hN [] _ _ _ _ _ (Or.inl rfl) hF (by omega) (by omega)
  · have hk0 : k = 0 := c_eq (a := k) (b := 0) h794 rfl rfl (by omega) (by omega)
    rw [if_pos hk0]
    refine fs_aload_n (pc2 := 798) (kl_at_10 rfl) rfl rfl rfl ?_
    refine fs_iconst (pc2 := 799) (kl_at_10 rfl) rfl rfl ?_
    refine fs_lald (pc2 := 800) (kl_at_10 rfl) rfl rfl ho9 (vp_in_nI (n := 0) (by decide) (by decide)) ?_
    refine fs_iload (pc2 := 802) (kl_at_10 rfl) rfl rfl rfl ?_
    refine fs_i2l (pc2 := 803) (kl_at_10 rfl) rfl rfl ?_
    refine fs_lcmp (pc2 := 804) (kl_at_10 rfl) rfl rfl ?_
    rw [hv9 hk0]
    refine fs_if_eq (pc2 := 807) (kl_at_10 rfl) rfl rfl (fun h804 => ?_) (fun h804 => absurd (lg_cmp_self _) h804)
    refine fs_goto (kl_at_10 rfl) rfl ?_
    first | exact hN [(5, .int _)] _ _ _ _ _ (Or.inr (Or.inl ⟨_, rfl⟩)) hF (by omega) (by omega) | exact hN [(5, .int _), (6, .int _)] _ _ _ _ _ (Or.inr (Or.inr ⟨_, _, rfl⟩)) hF (by omega) (by omega) | exact hN [] _ _ _ _ _ (Or.inl rfl) hF (by omega) (by omega)
set_option maxRecDepth 100000 in
set_option maxHeartbeats 4000000 in
theorem lc_inject_2 {u5 u6 : Int32} (hext : ev_HX l D cy zF ext) (hst : l.stackTraces = false) (hA : AlOK cy z0 a0 ext) (e1 : mb = c + 374) (e2 : oo = c + 420) (e3 : K = c + 421) (hI : LI K a0 c mb oo sh V n j) (hj : j < 512) (hx : 6 * j + 6 ≤ Lx) (hLx : Lx ≤ 3072) (hc : cc + 4 ≤ 601024) (hsl : sl + 740 ≤ 7293034) (hN : ∀ T' sh' V' n' c' sl', TS T' → LI K a0 c mb oo sh' V' n' (j + 1) → c' ≤ cc + 4 → sl' ≤ sl + 740 → lQ l D cy zF z0 ext b Lx xs Ret 1053 ([(0, .ref b), (1, .ref (z0 + c)), (2, .ref (z0 + mb)), (3, .ref (z0 + oo)), (4, .int (nI (6 * j)))] ++ T') [] sh' V' n' c' sl') : lQ l D cy zF z0 ext b Lx xs Ret 732 ([(0, .ref b), (1, .ref (z0 + c)), (2, .ref (z0 + mb)), (3, .ref (z0 + oo)), (4, .int (nI (6 * j))), (5, .int u5), (6, .int u6)]) [] sh V n cc sl := by
  obtain ⟨E, R, S, HH, g, hL, hm, hM, ho, hJ⟩ := hI
  obtain ⟨m1, m2⟩ := id hm
  have hcl := hL.1
  unfold isCL at hcl
  have hKn := hL.Kn
  have hq1 : vp_in (nI (6 * j) + 1) Lx := by rw [show (nI (6 * j) + 1 : Int32) = nI (6 * j + 1) from by rw [show (1 : Int32) = nI 1 from rfl, nI_add]]; exact vp_in_nI (by omega) (by omega)
  have hq2 : vp_in (nI (6 * j) + 2) Lx := by rw [show (nI (6 * j) + 2 : Int32) = nI (6 * j + 2) from by rw [show (2 : Int32) = nI 2 from rfl, nI_add]]; exact vp_in_nI (by omega) (by omega)
  have hq3 : vp_in (nI (6 * j) + 3) Lx := by rw [show (nI (6 * j) + 3 : Int32) = nI (6 * j + 3) from by rw [show (3 : Int32) = nI 3 from rfl, nI_add]]; exact vp_in_nI (by omega) (by omega)
  obtain ⟨k, x, S', HH', hkm, hJ', hsame, hC, hMP⟩ := tie_inject (K := K) (c := c) (mb := mb) (S := S) hext hst hJ hj (u := (xs (nI (6 * j) + 1).toNatClampNeg)) (w := (xs (nI (6 * j) + 2).toNatClampNeg)) (x := (xs (nI (6 * j) + 3).toNatClampNeg))
  refine fs_aload_n (pc2 := 733) (kl_at_10 rfl) rfl rfl rfl ?_
  refine fs_aload_n (pc2 := 734) (kl_at_10 rfl) rfl rfl rfl ?_
  refine fs_iload (pc2 := 736) (kl_at_10 rfl) rfl rfl rfl ?_
  refine fs_iconst (pc2 := 737) (kl_at_10 rfl) rfl rfl ?_
  refine fs_iadd (pc2 := 738) (kl_at_10 rfl) rfl rfl ?_
  refine lw_scr (pc2 := 739) (kl_at_10 rfl) rfl hq1 ?_
  refine fs_aload_n (pc2 := 740) (kl_at_10 rfl) rfl rfl rfl ?_
  refine fs_iload (pc2 := 742) (kl_at_10 rfl) rfl rfl rfl ?_
  refine fs_iconst (pc2 := 743) (kl_at_10 rfl) rfl rfl ?_
  refine fs_iadd (pc2 := 744) (kl_at_10 rfl) rfl rfl ?_
  refine lw_scr (pc2 := 745) (kl_at_10 rfl) rfl hq2 ?_
  refine fs_aload_n (pc2 := 746) (kl_at_10 rfl) rfl rfl rfl ?_
  refine fs_iload (pc2 := 748) (kl_at_10 rfl) rfl rfl rfl ?_
  refine fs_iconst (pc2 := 749) (kl_at_10 rfl) rfl rfl ?_
  refine fs_iadd (pc2 := 750) (kl_at_10 rfl) rfl rfl ?_
  refine lw_scr (pc2 := 751) (kl_at_10 rfl) rfl hq3 ?_
  refine fs_aload_n (pc2 := 752) (kl_at_10 rfl) rfl rfl rfl ?_
  refine lw_hlp (dc := 4) (ds := 740) (pc2 := 755) (kl_at_10 rfl) rfl kw_L_inject (h_inject hcl hkm (fun v sh' V' n' h => ⟨h.1, by rw [h.2.2.2.2 oo (by omega) (by omega)]; exact ho⟩) (hC sh V n E R hL)) rfl rfl (Nat.le_of_ble_eq_true rfl) rfl rfl hc hsl (fun v9 sh9 V9 n9 hp9 => ?_)
  obtain ⟨ea9, hp9⟩ := hp9
  cases ea9
  obtain ⟨E9, R9, g9, hL9, hm9, hM9, ho9, hv9⟩ := lw_aft (a := mkI x) e1 e2 e3 hL hm hM ho hsame hp9
  obtain ⟨m3, m4⟩ := id hm9
  refine fs_istore (pc2 := 757) (kl_at_10 rfl) rfl rfl (Nat.le_of_ble_eq_true rfl) ?_
  refine fs_aload_n (pc2 := 758) (kl_at_10 rfl) rfl rfl rfl ?_
  refine fs_aload_n (pc2 := 759) (kl_at_10 rfl) rfl rfl rfl ?_
  refine fs_iload (pc2 := 761) (kl_at_10 rfl) rfl rfl rfl ?_
  refine fs_iconst (pc2 := 762) (kl_at_10 rfl) rfl rfl ?_
  refine fs_iadd (pc2 := 763) (kl_at_10 rfl) rfl rfl ?_
  refine lw_scr (pc2 := 764) (kl_at_10 rfl) rfl hq1 ?_
  refine fs_aload_n (pc2 := 765) (kl_at_10 rfl) rfl rfl rfl ?_
  refine fs_iload (pc2 := 767) (kl_at_10 rfl) rfl rfl rfl ?_
  refine fs_iconst (pc2 := 768) (kl_at_10 rfl) rfl rfl ?_
  refine fs_iadd (pc2 := 769) (kl_at_10 rfl) rfl rfl ?_
  refine lw_scr (pc2 := 770) (kl_at_10 rfl) rfl hq2 ?_
  refine fs_aload_n (pc2 := 771) (kl_at_10 rfl) rfl rfl rfl ?_
  refine fs_iload (pc2 := 773) (kl_at_10 rfl) rfl rfl rfl ?_
  refine fs_iconst (pc2 := 774) (kl_at_10 rfl) rfl rfl ?_
  refine fs_iadd (pc2 := 775) (kl_at_10 rfl) rfl rfl ?_
  refine lw_scr (pc2 := 776) (kl_at_10 rfl) rfl hq3 ?_
  refine lw_callv (dc := 0) (ds := 0) (pc2 := 779) (kl_at_10 rfl) rfl rfl rfl ⟨rfl, rfl⟩ (Nat.le_of_ble_eq_true rfl) rfl rfl (by omega) (by omega) (fs_rcv rfl m3) (hMP _ _ _ hm9 hM9) (fun v8 sh8 V8 n8 hp8 => ?_)
  obtain ⟨ea8, eb8, ec8, hM8, hth, hO8⟩ := hp8
  rw [mk_if] at ea8
  cases ea8
  obtain rfl := eb8.symm
  obtain rfl := ec8.symm
  have hF := lw_fin e1 e2 e3 hL9 hm9 hM8 hO8 ho9 hJ'
  refine fs_istore (pc2 := 781) (kl_at_10 rfl) rfl rfl (Nat.le_of_ble_eq_true rfl) ?_
  refine fs_aload_n (pc2 := 782) (kl_at_10 rfl) rfl rfl rfl ?_
  refine lw_callv (dc := 0) (ds := 0) (pc2 := 785) (kl_at_10 rfl) rfl rfl rfl ⟨rfl, rfl⟩ (Nat.le_of_ble_eq_true rfl) rfl rfl (by omega) (by omega) (fs_rcv rfl m3) (m_thrown hm9) (fun v9 sh9 V9 n9 hp9 => ?_)
  obtain ⟨ea9, eb9, ec9, ed9⟩ := hp9
  cases ea9
  obtain rfl := eb9.symm
  obtain rfl := ec9.symm
  obtain rfl := ed9.symm
  rw [hth]
  refine fs_iload (pc2 := 787) (kl_at_10 rfl) rfl rfl rfl ?_
  refine fs_icmp_eq (pc2 := 790) (kl_at_10 rfl) rfl rfl (fun h787 => ?_) (fun h787 => absurd rfl h787)
  refine fs_iload (pc2 := 794) (kl_at_10 rfl) rfl rfl rfl ?_
  refine fs_if_ne (pc2 := 797) (kl_at_10 rfl) rfl rfl (fun h794 => ?_) (fun h794 => ?_)
  · refine fs_goto (kl_at_10 rfl) rfl ?_
    first | exact hN [(5, .int _)] _ _ _ _ _ (Or.inr (Or.inl ⟨_, rfl⟩)) hF (by omega) (by omega) | exact hN [(5, .int _), (6, .int _)] _ _ _ _ _ (Or.inr (Or.inr ⟨_, _, rfl⟩)) hF (by omega) (by omega) | exact hN [] _ _ _ _ _ (Or.inl rfl) hF (by omega) (by omega)
  · have hk0 : k = 0 := c_eq (a := k) (b := 0) h794 rfl rfl (by omega) (by omega)
    rw [if_pos hk0]
    refine fs_aload_n (pc2 := 798) (kl_at_10 rfl) rfl rfl rfl ?_
    refine fs_iconst (pc2 := 799) (kl_at_10 rfl) rfl rfl ?_
    refine fs_lald (pc2 := 800) (kl_at_10 rfl) rfl rfl ho9 (vp_in_nI (n := 0) (by decide) (by decide)) ?_
    refine fs_iload (pc2 := 802) (kl_at_10 rfl) rfl rfl rfl ?_
    refine fs_i2l (pc2 := 803) (kl_at_10 rfl) rfl rfl ?_
    refine fs_lcmp (pc2 := 804) (kl_at_10 rfl) rfl rfl ?_
    rw [hv9 hk0]
    refine fs_if_eq (pc2 := 807) (kl_at_10 rfl) rfl rfl (fun h804 => ?_) (fun h804 => absurd (lg_cmp_self _) h804)
    refine fs_goto (kl_at_10 rfl) rfl ?_
    first | exact hN [(5, .int _)] _ _ _ _ _ (Or.inr (Or.inl ⟨_, rfl⟩)) hF (by omega) (by omega) | exact hN [(5, .int _), (6, .int _)] _ _ _ _ _ (Or.inr (Or.inr ⟨_, _, rfl⟩)) hF (by omega) (by omega) | exact hN [] _ _ _ _ _ (Or.inl rfl) hF (by omega) (by omega)
set_option maxRecDepth 100000 in
set_option maxHeartbeats 4000000 in
theorem lc_receive_0 (hext : ev_HX l D cy zF ext) (hst : l.stackTraces = false) (hA : AlOK cy z0 a0 ext) (e1 : mb = c + 374) (e2 : oo = c + 420) (e3 : K = c + 421) (hI : LI K a0 c mb oo sh V n j) (hj : j < 512) (hx : 6 * j + 6 ≤ Lx) (hLx : Lx ≤ 3072) (hc : cc + 4 ≤ 601024) (hsl : sl + 740 ≤ 7293034) (hN : ∀ T' sh' V' n' c' sl', TS T' → LI K a0 c mb oo sh' V' n' (j + 1) → c' ≤ cc + 4 → sl' ≤ sl + 740 → lQ l D cy zF z0 ext b Lx xs Ret 1053 ([(0, .ref b), (1, .ref (z0 + c)), (2, .ref (z0 + mb)), (3, .ref (z0 + oo)), (4, .int (nI (6 * j)))] ++ T') [] sh' V' n' c' sl') : lQ l D cy zF z0 ext b Lx xs Ret 812 ([(0, .ref b), (1, .ref (z0 + c)), (2, .ref (z0 + mb)), (3, .ref (z0 + oo)), (4, .int (nI (6 * j)))]) [] sh V n cc sl := by
  obtain ⟨E, R, S, HH, g, hL, hm, hM, ho, hJ⟩ := hI
  obtain ⟨m1, m2⟩ := id hm
  have hcl := hL.1
  unfold isCL at hcl
  have hKn := hL.Kn
  have hq1 : vp_in (nI (6 * j) + 1) Lx := by rw [show (nI (6 * j) + 1 : Int32) = nI (6 * j + 1) from by rw [show (1 : Int32) = nI 1 from rfl, nI_add]]; exact vp_in_nI (by omega) (by omega)
  have hq2 : vp_in (nI (6 * j) + 2) Lx := by rw [show (nI (6 * j) + 2 : Int32) = nI (6 * j + 2) from by rw [show (2 : Int32) = nI 2 from rfl, nI_add]]; exact vp_in_nI (by omega) (by omega)
  obtain ⟨k, x, S', HH', hkm, hJ', hsame, hC, hMP⟩ := tie_receive (K := K) (c := c) (mb := mb) (S := S) hext hst hJ hj (u := (xs (nI (6 * j) + 1).toNatClampNeg)) (w := (xs (nI (6 * j) + 2).toNatClampNeg))
  refine fs_aload_n (pc2 := 813) (kl_at_11 rfl) rfl rfl rfl ?_
  refine fs_aload_n (pc2 := 814) (kl_at_11 rfl) rfl rfl rfl ?_
  refine fs_iload (pc2 := 816) (kl_at_11 rfl) rfl rfl rfl ?_
  refine fs_iconst (pc2 := 817) (kl_at_11 rfl) rfl rfl ?_
  refine fs_iadd (pc2 := 818) (kl_at_11 rfl) rfl rfl ?_
  refine lw_scr (pc2 := 819) (kl_at_11 rfl) rfl hq1 ?_
  refine fs_aload_n (pc2 := 820) (kl_at_11 rfl) rfl rfl rfl ?_
  refine fs_iload (pc2 := 822) (kl_at_11 rfl) rfl rfl rfl ?_
  refine fs_iconst (pc2 := 823) (kl_at_11 rfl) rfl rfl ?_
  refine fs_iadd (pc2 := 824) (kl_at_11 rfl) rfl rfl ?_
  refine lw_scr (pc2 := 825) (kl_at_11 rfl) rfl hq2 ?_
  refine fs_aload_n (pc2 := 826) (kl_at_11 rfl) rfl rfl rfl ?_
  refine lw_hlp (dc := 4) (ds := 740) (pc2 := 829) (kl_at_11 rfl) rfl kw_L_receive (h_receive hcl hkm (fun v sh' V' n' h => ⟨h.1, by rw [h.2.2.2.2 oo (by omega) (by omega)]; exact ho⟩) (hC sh V n E R hL)) rfl rfl (Nat.le_of_ble_eq_true rfl) rfl rfl hc hsl (fun v9 sh9 V9 n9 hp9 => ?_)
  obtain ⟨ea9, hp9⟩ := hp9
  cases ea9
  obtain ⟨E9, R9, g9, hL9, hm9, hM9, ho9, hv9⟩ := lw_aft (a := mkI x) e1 e2 e3 hL hm hM ho hsame hp9
  obtain ⟨m3, m4⟩ := id hm9
  refine fs_istore (pc2 := 831) (kl_at_11 rfl) rfl rfl (Nat.le_of_ble_eq_true rfl) ?_
  refine fs_aload_n (pc2 := 832) (kl_at_11 rfl) rfl rfl rfl ?_
  refine fs_aload_n (pc2 := 833) (kl_at_11 rfl) rfl rfl rfl ?_
  refine fs_iload (pc2 := 835) (kl_at_11 rfl) rfl rfl rfl ?_
  refine fs_iconst (pc2 := 836) (kl_at_11 rfl) rfl rfl ?_
  refine fs_iadd (pc2 := 837) (kl_at_11 rfl) rfl rfl ?_
  refine lw_scr (pc2 := 838) (kl_at_11 rfl) rfl hq1 ?_
  refine fs_aload_n (pc2 := 839) (kl_at_11 rfl) rfl rfl rfl ?_
  refine fs_iload (pc2 := 841) (kl_at_11 rfl) rfl rfl rfl ?_
  refine fs_iconst (pc2 := 842) (kl_at_11 rfl) rfl rfl ?_
  refine fs_iadd (pc2 := 843) (kl_at_11 rfl) rfl rfl ?_
  refine lw_scr (pc2 := 844) (kl_at_11 rfl) rfl hq2 ?_
  refine lw_callv (dc := 0) (ds := 0) (pc2 := 847) (kl_at_11 rfl) rfl rfl rfl ⟨rfl, rfl⟩ (Nat.le_of_ble_eq_true rfl) rfl rfl (by omega) (by omega) (fs_rcv rfl m3) (hMP _ _ _ hm9 hM9) (fun v8 sh8 V8 n8 hp8 => ?_)
  obtain ⟨ea8, eb8, ec8, hM8, hth, hO8⟩ := hp8
  rw [mk_if] at ea8
  cases ea8
  obtain rfl := eb8.symm
  obtain rfl := ec8.symm
  have hF := lw_fin e1 e2 e3 hL9 hm9 hM8 hO8 ho9 hJ'
  refine fs_istore (pc2 := 849) (kl_at_11 rfl) rfl rfl (Nat.le_of_ble_eq_true rfl) ?_
  refine fs_aload_n (pc2 := 850) (kl_at_11 rfl) rfl rfl rfl ?_
  refine lw_callv (dc := 0) (ds := 0) (pc2 := 853) (kl_at_11 rfl) rfl rfl rfl ⟨rfl, rfl⟩ (Nat.le_of_ble_eq_true rfl) rfl rfl (by omega) (by omega) (fs_rcv rfl m3) (m_thrown hm9) (fun v9 sh9 V9 n9 hp9 => ?_)
  obtain ⟨ea9, eb9, ec9, ed9⟩ := hp9
  cases ea9
  obtain rfl := eb9.symm
  obtain rfl := ec9.symm
  obtain rfl := ed9.symm
  rw [hth]
  refine fs_iload (pc2 := 855) (kl_at_11 rfl) rfl rfl rfl ?_
  refine fs_icmp_eq (pc2 := 858) (kl_at_11 rfl) rfl rfl (fun h855 => ?_) (fun h855 => absurd rfl h855)
  refine fs_iload (pc2 := 862) (kl_at_11 rfl) rfl rfl rfl ?_
  refine fs_if_ne (pc2 := 865) (kl_at_11 rfl) rfl rfl (fun h862 => ?_) (fun h862 => ?_)
  · refine fs_goto (kl_at_11 rfl) rfl ?_
    first | exact hN [(5, .int _)] _ _ _ _ _ (Or.inr (Or.inl ⟨_, rfl⟩)) hF (by omega) (by omega) | exact hN [(5, .int _), (6, .int _)] _ _ _ _ _ (Or.inr (Or.inr ⟨_, _, rfl⟩)) hF (by omega) (by omega) | exact hN [] _ _ _ _ _ (Or.inl rfl) hF (by omega) (by omega)
  · have hk0 : k = 0 := c_eq (a := k) (b := 0) h862 rfl rfl (by omega) (by omega)
    rw [if_pos hk0]
    refine fs_aload_n (pc2 := 866) (kl_at_11 rfl) rfl rfl rfl ?_
    refine fs_iconst (pc2 := 867) (kl_at_11 rfl) rfl rfl ?_
    refine fs_lald (pc2 := 868) (kl_at_11 rfl) rfl rfl ho9 (vp_in_nI (n := 0) (by decide) (by decide)) ?_
    refine fs_iload (pc2 := 870) (kl_at_11 rfl) rfl rfl rfl ?_
    refine fs_i2l (pc2 := 871) (kl_at_11 rfl) rfl rfl ?_
    refine fs_lcmp (pc2 := 872) (kl_at_11 rfl) rfl rfl ?_
    rw [hv9 hk0]
    refine fs_if_eq (pc2 := 875) (kl_at_11 rfl) rfl rfl (fun h872 => ?_) (fun h872 => absurd (lg_cmp_self _) h872)
    refine fs_goto (kl_at_11 rfl) rfl ?_
    first | exact hN [(5, .int _)] _ _ _ _ _ (Or.inr (Or.inl ⟨_, rfl⟩)) hF (by omega) (by omega) | exact hN [(5, .int _), (6, .int _)] _ _ _ _ _ (Or.inr (Or.inr ⟨_, _, rfl⟩)) hF (by omega) (by omega) | exact hN [] _ _ _ _ _ (Or.inl rfl) hF (by omega) (by omega)
set_option maxRecDepth 100000 in
set_option maxHeartbeats 4000000 in
theorem lc_receive_1 {u5 : Int32} (hext : ev_HX l D cy zF ext) (hst : l.stackTraces = false) (hA : AlOK cy z0 a0 ext) (e1 : mb = c + 374) (e2 : oo = c + 420) (e3 : K = c + 421) (hI : LI K a0 c mb oo sh V n j) (hj : j < 512) (hx : 6 * j + 6 ≤ Lx) (hLx : Lx ≤ 3072) (hc : cc + 4 ≤ 601024) (hsl : sl + 740 ≤ 7293034) (hN : ∀ T' sh' V' n' c' sl', TS T' → LI K a0 c mb oo sh' V' n' (j + 1) → c' ≤ cc + 4 → sl' ≤ sl + 740 → lQ l D cy zF z0 ext b Lx xs Ret 1053 ([(0, .ref b), (1, .ref (z0 + c)), (2, .ref (z0 + mb)), (3, .ref (z0 + oo)), (4, .int (nI (6 * j)))] ++ T') [] sh' V' n' c' sl') : lQ l D cy zF z0 ext b Lx xs Ret 812 ([(0, .ref b), (1, .ref (z0 + c)), (2, .ref (z0 + mb)), (3, .ref (z0 + oo)), (4, .int (nI (6 * j))), (5, .int u5)]) [] sh V n cc sl := by
  obtain ⟨E, R, S, HH, g, hL, hm, hM, ho, hJ⟩ := hI
  obtain ⟨m1, m2⟩ := id hm
  have hcl := hL.1
  unfold isCL at hcl
  have hKn := hL.Kn
  have hq1 : vp_in (nI (6 * j) + 1) Lx := by rw [show (nI (6 * j) + 1 : Int32) = nI (6 * j + 1) from by rw [show (1 : Int32) = nI 1 from rfl, nI_add]]; exact vp_in_nI (by omega) (by omega)
  have hq2 : vp_in (nI (6 * j) + 2) Lx := by rw [show (nI (6 * j) + 2 : Int32) = nI (6 * j + 2) from by rw [show (2 : Int32) = nI 2 from rfl, nI_add]]; exact vp_in_nI (by omega) (by omega)
  obtain ⟨k, x, S', HH', hkm, hJ', hsame, hC, hMP⟩ := tie_receive (K := K) (c := c) (mb := mb) (S := S) hext hst hJ hj (u := (xs (nI (6 * j) + 1).toNatClampNeg)) (w := (xs (nI (6 * j) + 2).toNatClampNeg))
  refine fs_aload_n (pc2 := 813) (kl_at_11 rfl) rfl rfl rfl ?_
  refine fs_aload_n (pc2 := 814) (kl_at_11 rfl) rfl rfl rfl ?_
  refine fs_iload (pc2 := 816) (kl_at_11 rfl) rfl rfl rfl ?_
  refine fs_iconst (pc2 := 817) (kl_at_11 rfl) rfl rfl ?_
  refine fs_iadd (pc2 := 818) (kl_at_11 rfl) rfl rfl ?_
  refine lw_scr (pc2 := 819) (kl_at_11 rfl) rfl hq1 ?_
  refine fs_aload_n (pc2 := 820) (kl_at_11 rfl) rfl rfl rfl ?_
  refine fs_iload (pc2 := 822) (kl_at_11 rfl) rfl rfl rfl ?_
  refine fs_iconst (pc2 := 823) (kl_at_11 rfl) rfl rfl ?_
  refine fs_iadd (pc2 := 824) (kl_at_11 rfl) rfl rfl ?_
  refine lw_scr (pc2 := 825) (kl_at_11 rfl) rfl hq2 ?_
  refine fs_aload_n (pc2 := 826) (kl_at_11 rfl) rfl rfl rfl ?_
  refine lw_hlp (dc := 4) (ds := 740) (pc2 := 829) (kl_at_11 rfl) rfl kw_L_receive (h_receive hcl hkm (fun v sh' V' n' h => ⟨h.1, by rw [h.2.2.2.2 oo (by omega) (by omega)]; exact ho⟩) (hC sh V n E R hL)) rfl rfl (Nat.le_of_ble_eq_true rfl) rfl rfl hc hsl (fun v9 sh9 V9 n9 hp9 => ?_)
  obtain ⟨ea9, hp9⟩ := hp9
  cases ea9
  obtain ⟨E9, R9, g9, hL9, hm9, hM9, ho9, hv9⟩ := lw_aft (a := mkI x) e1 e2 e3 hL hm hM ho hsame hp9
  obtain ⟨m3, m4⟩ := id hm9
  refine fs_istore (pc2 := 831) (kl_at_11 rfl) rfl rfl (Nat.le_of_ble_eq_true rfl) ?_
  refine fs_aload_n (pc2 := 832) (kl_at_11 rfl) rfl rfl rfl ?_
  refine fs_aload_n (pc2 := 833) (kl_at_11 rfl) rfl rfl rfl ?_
  refine fs_iload (pc2 := 835) (kl_at_11 rfl) rfl rfl rfl ?_
  refine fs_iconst (pc2 := 836) (kl_at_11 rfl) rfl rfl ?_
  refine fs_iadd (pc2 := 837) (kl_at_11 rfl) rfl rfl ?_
  refine lw_scr (pc2 := 838) (kl_at_11 rfl) rfl hq1 ?_
  refine fs_aload_n (pc2 := 839) (kl_at_11 rfl) rfl rfl rfl ?_
  refine fs_iload (pc2 := 841) (kl_at_11 rfl) rfl rfl rfl ?_
  refine fs_iconst (pc2 := 842) (kl_at_11 rfl) rfl rfl ?_
  refine fs_iadd (pc2 := 843) (kl_at_11 rfl) rfl rfl ?_
  refine lw_scr (pc2 := 844) (kl_at_11 rfl) rfl hq2 ?_
  refine lw_callv (dc := 0) (ds := 0) (pc2 := 847) (kl_at_11 rfl) rfl rfl rfl ⟨rfl, rfl⟩ (Nat.le_of_ble_eq_true rfl) rfl rfl (by omega) (by omega) (fs_rcv rfl m3) (hMP _ _ _ hm9 hM9) (fun v8 sh8 V8 n8 hp8 => ?_)
  obtain ⟨ea8, eb8, ec8, hM8, hth, hO8⟩ := hp8
  rw [mk_if] at ea8
  cases ea8
  obtain rfl := eb8.symm
  obtain rfl := ec8.symm
  have hF := lw_fin e1 e2 e3 hL9 hm9 hM8 hO8 ho9 hJ'
  refine fs_istore (pc2 := 849) (kl_at_11 rfl) rfl rfl (Nat.le_of_ble_eq_true rfl) ?_
  refine fs_aload_n (pc2 := 850) (kl_at_11 rfl) rfl rfl rfl ?_
  refine lw_callv (dc := 0) (ds := 0) (pc2 := 853) (kl_at_11 rfl) rfl rfl rfl ⟨rfl, rfl⟩ (Nat.le_of_ble_eq_true rfl) rfl rfl (by omega) (by omega) (fs_rcv rfl m3) (m_thrown hm9) (fun v9 sh9 V9 n9 hp9 => ?_)
  obtain ⟨ea9, eb9, ec9, ed9⟩ := hp9
  cases ea9
  obtain rfl := eb9.symm
  obtain rfl := ec9.symm
  obtain rfl := ed9.symm
  rw [hth]
  refine fs_iload (pc2 := 855) (kl_at_11 rfl) rfl rfl rfl ?_
  refine fs_icmp_eq (pc2 := 858) (kl_at_11 rfl) rfl rfl (fun h855 => ?_) (fun h855 => absurd rfl h855)
  refine fs_iload (pc2 := 862) (kl_at_11 rfl) rfl rfl rfl ?_
  refine fs_if_ne (pc2 := 865) (kl_at_11 rfl) rfl rfl (fun h862 => ?_) (fun h862 => ?_)
  · refine fs_goto (kl_at_11 rfl) rfl ?_
    first | exact hN [(5, .int _)] _ _ _ _ _ (Or.inr (Or.inl ⟨_, rfl⟩)) hF (by omega) (by omega) | exact hN [(5, .int _), (6, .int _)] _ _ _ _ _ (Or.inr (Or.inr ⟨_, _, rfl⟩)) hF (by omega) (by omega) | exact hN [] _ _ _ _ _ (Or.inl rfl) hF (by omega) (by omega)
  · have hk0 : k = 0 := c_eq (a := k) (b := 0) h862 rfl rfl (by omega) (by omega)
    rw [if_pos hk0]
    refine fs_aload_n (pc2 := 866) (kl_at_11 rfl) rfl rfl rfl ?_
    refine fs_iconst (pc2 := 867) (kl_at_11 rfl) rfl rfl ?_
    refine fs_lald (pc2 := 868) (kl_at_11 rfl) rfl rfl ho9 (vp_in_nI (n := 0) (by decide) (by decide)) ?_
    refine fs_iload (pc2 := 870) (kl_at_11 rfl) rfl rfl rfl ?_
    refine fs_i2l (pc2 := 871) (kl_at_11 rfl) rfl rfl ?_
    refine fs_lcmp (pc2 := 872) (kl_at_11 rfl) rfl rfl ?_
    rw [hv9 hk0]
    refine fs_if_eq (pc2 := 875) (kl_at_11 rfl) rfl rfl (fun h872 => ?_) (fun h872 => absurd (lg_cmp_self _) h872)
    refine fs_goto (kl_at_11 rfl) rfl ?_
    first | exact hN [(5, .int _)] _ _ _ _ _ (Or.inr (Or.inl ⟨_, rfl⟩)) hF (by omega) (by omega) | exact hN [(5, .int _), (6, .int _)] _ _ _ _ _ (Or.inr (Or.inr ⟨_, _, rfl⟩)) hF (by omega) (by omega) | exact hN [] _ _ _ _ _ (Or.inl rfl) hF (by omega) (by omega)
set_option maxRecDepth 100000 in
set_option maxHeartbeats 4000000 in
theorem lc_receive_2 {u5 u6 : Int32} (hext : ev_HX l D cy zF ext) (hst : l.stackTraces = false) (hA : AlOK cy z0 a0 ext) (e1 : mb = c + 374) (e2 : oo = c + 420) (e3 : K = c + 421) (hI : LI K a0 c mb oo sh V n j) (hj : j < 512) (hx : 6 * j + 6 ≤ Lx) (hLx : Lx ≤ 3072) (hc : cc + 4 ≤ 601024) (hsl : sl + 740 ≤ 7293034) (hN : ∀ T' sh' V' n' c' sl', TS T' → LI K a0 c mb oo sh' V' n' (j + 1) → c' ≤ cc + 4 → sl' ≤ sl + 740 → lQ l D cy zF z0 ext b Lx xs Ret 1053 ([(0, .ref b), (1, .ref (z0 + c)), (2, .ref (z0 + mb)), (3, .ref (z0 + oo)), (4, .int (nI (6 * j)))] ++ T') [] sh' V' n' c' sl') : lQ l D cy zF z0 ext b Lx xs Ret 812 ([(0, .ref b), (1, .ref (z0 + c)), (2, .ref (z0 + mb)), (3, .ref (z0 + oo)), (4, .int (nI (6 * j))), (5, .int u5), (6, .int u6)]) [] sh V n cc sl := by
  obtain ⟨E, R, S, HH, g, hL, hm, hM, ho, hJ⟩ := hI
  obtain ⟨m1, m2⟩ := id hm
  have hcl := hL.1
  unfold isCL at hcl
  have hKn := hL.Kn
  have hq1 : vp_in (nI (6 * j) + 1) Lx := by rw [show (nI (6 * j) + 1 : Int32) = nI (6 * j + 1) from by rw [show (1 : Int32) = nI 1 from rfl, nI_add]]; exact vp_in_nI (by omega) (by omega)
  have hq2 : vp_in (nI (6 * j) + 2) Lx := by rw [show (nI (6 * j) + 2 : Int32) = nI (6 * j + 2) from by rw [show (2 : Int32) = nI 2 from rfl, nI_add]]; exact vp_in_nI (by omega) (by omega)
  obtain ⟨k, x, S', HH', hkm, hJ', hsame, hC, hMP⟩ := tie_receive (K := K) (c := c) (mb := mb) (S := S) hext hst hJ hj (u := (xs (nI (6 * j) + 1).toNatClampNeg)) (w := (xs (nI (6 * j) + 2).toNatClampNeg))
  refine fs_aload_n (pc2 := 813) (kl_at_11 rfl) rfl rfl rfl ?_
  refine fs_aload_n (pc2 := 814) (kl_at_11 rfl) rfl rfl rfl ?_
  refine fs_iload (pc2 := 816) (kl_at_11 rfl) rfl rfl rfl ?_
  refine fs_iconst (pc2 := 817) (kl_at_11 rfl) rfl rfl ?_
  refine fs_iadd (pc2 := 818) (kl_at_11 rfl) rfl rfl ?_
  refine lw_scr (pc2 := 819) (kl_at_11 rfl) rfl hq1 ?_
  refine fs_aload_n (pc2 := 820) (kl_at_11 rfl) rfl rfl rfl ?_
  refine fs_iload (pc2 := 822) (kl_at_11 rfl) rfl rfl rfl ?_
  refine fs_iconst (pc2 := 823) (kl_at_11 rfl) rfl rfl ?_
  refine fs_iadd (pc2 := 824) (kl_at_11 rfl) rfl rfl ?_
  refine lw_scr (pc2 := 825) (kl_at_11 rfl) rfl hq2 ?_
  refine fs_aload_n (pc2 := 826) (kl_at_11 rfl) rfl rfl rfl ?_
  refine lw_hlp (dc := 4) (ds := 740) (pc2 := 829) (kl_at_11 rfl) rfl kw_L_receive (h_receive hcl hkm (fun v sh' V' n' h => ⟨h.1, by rw [h.2.2.2.2 oo (by omega) (by omega)]; exact ho⟩) (hC sh V n E R hL)) rfl rfl (Nat.le_of_ble_eq_true rfl) rfl rfl hc hsl (fun v9 sh9 V9 n9 hp9 => ?_)
  obtain ⟨ea9, hp9⟩ := hp9
  cases ea9
  obtain ⟨E9, R9, g9, hL9, hm9, hM9, ho9, hv9⟩ := lw_aft (a := mkI x) e1 e2 e3 hL hm hM ho hsame hp9
  obtain ⟨m3, m4⟩ := id hm9
  refine fs_istore (pc2 := 831) (kl_at_11 rfl) rfl rfl (Nat.le_of_ble_eq_true rfl) ?_
  refine fs_aload_n (pc2 := 832) (kl_at_11 rfl) rfl rfl rfl ?_
  refine fs_aload_n (pc2 := 833) (kl_at_11 rfl) rfl rfl rfl ?_
  refine fs_iload (pc2 := 835) (kl_at_11 rfl) rfl rfl rfl ?_
  refine fs_iconst (pc2 := 836) (kl_at_11 rfl) rfl rfl ?_
  refine fs_iadd (pc2 := 837) (kl_at_11 rfl) rfl rfl ?_
  refine lw_scr (pc2 := 838) (kl_at_11 rfl) rfl hq1 ?_
  refine fs_aload_n (pc2 := 839) (kl_at_11 rfl) rfl rfl rfl ?_
  refine fs_iload (pc2 := 841) (kl_at_11 rfl) rfl rfl rfl ?_
  refine fs_iconst (pc2 := 842) (kl_at_11 rfl) rfl rfl ?_
  refine fs_iadd (pc2 := 843) (kl_at_11 rfl) rfl rfl ?_
  refine lw_scr (pc2 := 844) (kl_at_11 rfl) rfl hq2 ?_
  refine lw_callv (dc := 0) (ds := 0) (pc2 := 847) (kl_at_11 rfl) rfl rfl rfl ⟨rfl, rfl⟩ (Nat.le_of_ble_eq_true rfl) rfl rfl (by omega) (by omega) (fs_rcv rfl m3) (hMP _ _ _ hm9 hM9) (fun v8 sh8 V8 n8 hp8 => ?_)
  obtain ⟨ea8, eb8, ec8, hM8, hth, hO8⟩ := hp8
  rw [mk_if] at ea8
  cases ea8
  obtain rfl := eb8.symm
  obtain rfl := ec8.symm
  have hF := lw_fin e1 e2 e3 hL9 hm9 hM8 hO8 ho9 hJ'
  refine fs_istore (pc2 := 849) (kl_at_11 rfl) rfl rfl (Nat.le_of_ble_eq_true rfl) ?_
  refine fs_aload_n (pc2 := 850) (kl_at_11 rfl) rfl rfl rfl ?_
  refine lw_callv (dc := 0) (ds := 0) (pc2 := 853) (kl_at_11 rfl) rfl rfl rfl ⟨rfl, rfl⟩ (Nat.le_of_ble_eq_true rfl) rfl rfl (by omega) (by omega) (fs_rcv rfl m3) (m_thrown hm9) (fun v9 sh9 V9 n9 hp9 => ?_)
  obtain ⟨ea9, eb9, ec9, ed9⟩ := hp9
  cases ea9
  obtain rfl := eb9.symm
  obtain rfl := ec9.symm
  obtain rfl := ed9.symm
  rw [hth]
  refine fs_iload (pc2 := 855) (kl_at_11 rfl) rfl rfl rfl ?_
  refine fs_icmp_eq (pc2 := 858) (kl_at_11 rfl) rfl rfl (fun h855 => ?_) (fun h855 => absurd rfl h855)
  refine fs_iload (pc2 := 862) (kl_at_11 rfl) rfl rfl rfl ?_
  refine fs_if_ne (pc2 := 865) (kl_at_11 rfl) rfl rfl (fun h862 => ?_) (fun h862 => ?_)
  · refine fs_goto (kl_at_11 rfl) rfl ?_
    first | exact hN [(5, .int _)] _ _ _ _ _ (Or.inr (Or.inl ⟨_, rfl⟩)) hF (by omega) (by omega) | exact hN [(5, .int _), (6, .int _)] _ _ _ _ _ (Or.inr (Or.inr ⟨_, _, rfl⟩)) hF (by omega) (by omega) | exact hN [] _ _ _ _ _ (Or.inl rfl) hF (by omega) (by omega)
  · have hk0 : k = 0 := c_eq (a := k) (b := 0) h862 rfl rfl (by omega) (by omega)
    rw [if_pos hk0]
    refine fs_aload_n (pc2 := 866) (kl_at_11 rfl) rfl rfl rfl ?_
    refine fs_iconst (pc2 := 867) (kl_at_11 rfl) rfl rfl ?_
    refine fs_lald (pc2 := 868) (kl_at_11 rfl) rfl rfl ho9 (vp_in_nI (n := 0) (by decide) (by decide)) ?_
    refine fs_iload (pc2 := 870) (kl_at_11 rfl) rfl rfl rfl ?_
    refine fs_i2l (pc2 := 871) (kl_at_11 rfl) rfl rfl ?_
    refine fs_lcmp (pc2 := 872) (kl_at_11 rfl) rfl rfl ?_
    rw [hv9 hk0]
    refine fs_if_eq (pc2 := 875) (kl_at_11 rfl) rfl rfl (fun h872 => ?_) (fun h872 => absurd (lg_cmp_self _) h872)
    refine fs_goto (kl_at_11 rfl) rfl ?_
    first | exact hN [(5, .int _)] _ _ _ _ _ (Or.inr (Or.inl ⟨_, rfl⟩)) hF (by omega) (by omega) | exact hN [(5, .int _), (6, .int _)] _ _ _ _ _ (Or.inr (Or.inr ⟨_, _, rfl⟩)) hF (by omega) (by omega) | exact hN [] _ _ _ _ _ (Or.inl rfl) hF (by omega) (by omega)
set_option maxRecDepth 100000 in
set_option maxHeartbeats 4000000 in
theorem lc_octet_0 (hext : ev_HX l D cy zF ext) (hst : l.stackTraces = false) (hA : AlOK cy z0 a0 ext) (e1 : mb = c + 374) (e2 : oo = c + 420) (e3 : K = c + 421) (hI : LI K a0 c mb oo sh V n j) (hj : j < 512) (hx : 6 * j + 6 ≤ Lx) (hLx : Lx ≤ 3072) (hc : cc + 4 ≤ 601024) (hsl : sl + 740 ≤ 7293034) (hN : ∀ T' sh' V' n' c' sl', TS T' → LI K a0 c mb oo sh' V' n' (j + 1) → c' ≤ cc + 4 → sl' ≤ sl + 740 → lQ l D cy zF z0 ext b Lx xs Ret 1053 ([(0, .ref b), (1, .ref (z0 + c)), (2, .ref (z0 + mb)), (3, .ref (z0 + oo)), (4, .int (nI (6 * j)))] ++ T') [] sh' V' n' c' sl') : lQ l D cy zF z0 ext b Lx xs Ret 880 ([(0, .ref b), (1, .ref (z0 + c)), (2, .ref (z0 + mb)), (3, .ref (z0 + oo)), (4, .int (nI (6 * j)))]) [] sh V n cc sl := by
  obtain ⟨E, R, S, HH, g, hL, hm, hM, ho, hJ⟩ := hI
  obtain ⟨m1, m2⟩ := id hm
  have hcl := hL.1
  unfold isCL at hcl
  have hKn := hL.Kn
  have hq1 : vp_in (nI (6 * j) + 1) Lx := by rw [show (nI (6 * j) + 1 : Int32) = nI (6 * j + 1) from by rw [show (1 : Int32) = nI 1 from rfl, nI_add]]; exact vp_in_nI (by omega) (by omega)
  refine fs_aload_n (pc2 := 881) (kl_at_12 rfl) rfl rfl rfl ?_
  refine fs_aload_n (pc2 := 882) (kl_at_12 rfl) rfl rfl rfl ?_
  refine fs_iload (pc2 := 884) (kl_at_12 rfl) rfl rfl rfl ?_
  refine fs_iconst (pc2 := 885) (kl_at_12 rfl) rfl rfl ?_
  refine fs_iadd (pc2 := 886) (kl_at_12 rfl) rfl rfl ?_
  refine lw_scr (pc2 := 887) (kl_at_12 rfl) rfl hq1 ?_
  refine lw_callv (dc := 0) (ds := 0) (pc2 := 890) (kl_at_12 rfl) rfl rfl rfl ⟨rfl, rfl⟩ (Nat.le_of_ble_eq_true rfl) rfl rfl (by omega) (by omega) (fs_rcv rfl hcl) (e_octet (d := 13) hL) (fun v9 sh9 V9 n9 hp9 => ?_)
  obtain ⟨ea9, eb9, ec9, ed9⟩ := hp9
  cases ea9
  obtain rfl := eb9.symm
  obtain rfl := ec9.symm
  obtain rfl := ed9.symm
  refine fs_aload_n (pc2 := 891) (kl_at_12 rfl) rfl rfl rfl ?_
  refine fs_aload_n (pc2 := 892) (kl_at_12 rfl) rfl rfl rfl ?_
  refine fs_iload (pc2 := 894) (kl_at_12 rfl) rfl rfl rfl ?_
  refine fs_iconst (pc2 := 895) (kl_at_12 rfl) rfl rfl ?_
  refine fs_iadd (pc2 := 896) (kl_at_12 rfl) rfl rfl ?_
  refine lw_scr (pc2 := 897) (kl_at_12 rfl) rfl hq1 ?_
  refine lw_callv (dc := 0) (ds := 0) (pc2 := 900) (kl_at_12 rfl) rfl rfl rfl ⟨rfl, rfl⟩ (Nat.le_of_ble_eq_true rfl) rfl rfl (by omega) (by omega) (fs_rcv rfl m1) (m_octet (d := 13) hm hM) (fun v8 sh8 V8 n8 hp8 => ?_)
  obtain ⟨ea8, eb8, ec8, hM8, hth, hO8⟩ := hp8
  cases ea8
  obtain rfl := eb8.symm
  obtain rfl := ec8.symm
  have hF := lw_fin (t := j + 1) e1 e2 e3 hL hm (hM8.mono (fun i _ => ⟨Nat.le_succ _, by omega⟩)) hO8 ho hJ.mono
  refine fs_icmp_eq (pc2 := 903) (kl_at_12 rfl) rfl rfl (fun h900 => ?_) (fun h900 => absurd rfl h900)
  first | exact hN [(5, .int _)] _ _ _ _ _ (Or.inr (Or.inl ⟨_, rfl⟩)) hF (by omega) (by omega) | exact hN [(5, .int _), (6, .int _)] _ _ _ _ _ (Or.inr (Or.inr ⟨_, _, rfl⟩)) hF (by omega) (by omega) | exact hN [] _ _ _ _ _ (Or.inl rfl) hF (by omega) (by omega)
set_option maxRecDepth 100000 in
set_option maxHeartbeats 4000000 in
theorem lc_octet_1 {u5 : Int32} (hext : ev_HX l D cy zF ext) (hst : l.stackTraces = false) (hA : AlOK cy z0 a0 ext) (e1 : mb = c + 374) (e2 : oo = c + 420) (e3 : K = c + 421) (hI : LI K a0 c mb oo sh V n j) (hj : j < 512) (hx : 6 * j + 6 ≤ Lx) (hLx : Lx ≤ 3072) (hc : cc + 4 ≤ 601024) (hsl : sl + 740 ≤ 7293034) (hN : ∀ T' sh' V' n' c' sl', TS T' → LI K a0 c mb oo sh' V' n' (j + 1) → c' ≤ cc + 4 → sl' ≤ sl + 740 → lQ l D cy zF z0 ext b Lx xs Ret 1053 ([(0, .ref b), (1, .ref (z0 + c)), (2, .ref (z0 + mb)), (3, .ref (z0 + oo)), (4, .int (nI (6 * j)))] ++ T') [] sh' V' n' c' sl') : lQ l D cy zF z0 ext b Lx xs Ret 880 ([(0, .ref b), (1, .ref (z0 + c)), (2, .ref (z0 + mb)), (3, .ref (z0 + oo)), (4, .int (nI (6 * j))), (5, .int u5)]) [] sh V n cc sl := by
  obtain ⟨E, R, S, HH, g, hL, hm, hM, ho, hJ⟩ := hI
  obtain ⟨m1, m2⟩ := id hm
  have hcl := hL.1
  unfold isCL at hcl
  have hKn := hL.Kn
  have hq1 : vp_in (nI (6 * j) + 1) Lx := by rw [show (nI (6 * j) + 1 : Int32) = nI (6 * j + 1) from by rw [show (1 : Int32) = nI 1 from rfl, nI_add]]; exact vp_in_nI (by omega) (by omega)
  refine fs_aload_n (pc2 := 881) (kl_at_12 rfl) rfl rfl rfl ?_
  refine fs_aload_n (pc2 := 882) (kl_at_12 rfl) rfl rfl rfl ?_
  refine fs_iload (pc2 := 884) (kl_at_12 rfl) rfl rfl rfl ?_
  refine fs_iconst (pc2 := 885) (kl_at_12 rfl) rfl rfl ?_
  refine fs_iadd (pc2 := 886) (kl_at_12 rfl) rfl rfl ?_
  refine lw_scr (pc2 := 887) (kl_at_12 rfl) rfl hq1 ?_
  refine lw_callv (dc := 0) (ds := 0) (pc2 := 890) (kl_at_12 rfl) rfl rfl rfl ⟨rfl, rfl⟩ (Nat.le_of_ble_eq_true rfl) rfl rfl (by omega) (by omega) (fs_rcv rfl hcl) (e_octet (d := 13) hL) (fun v9 sh9 V9 n9 hp9 => ?_)
  obtain ⟨ea9, eb9, ec9, ed9⟩ := hp9
  cases ea9
  obtain rfl := eb9.symm
  obtain rfl := ec9.symm
  obtain rfl := ed9.symm
  refine fs_aload_n (pc2 := 891) (kl_at_12 rfl) rfl rfl rfl ?_
  refine fs_aload_n (pc2 := 892) (kl_at_12 rfl) rfl rfl rfl ?_
  refine fs_iload (pc2 := 894) (kl_at_12 rfl) rfl rfl rfl ?_
  refine fs_iconst (pc2 := 895) (kl_at_12 rfl) rfl rfl ?_
  refine fs_iadd (pc2 := 896) (kl_at_12 rfl) rfl rfl ?_
  refine lw_scr (pc2 := 897) (kl_at_12 rfl) rfl hq1 ?_
  refine lw_callv (dc := 0) (ds := 0) (pc2 := 900) (kl_at_12 rfl) rfl rfl rfl ⟨rfl, rfl⟩ (Nat.le_of_ble_eq_true rfl) rfl rfl (by omega) (by omega) (fs_rcv rfl m1) (m_octet (d := 13) hm hM) (fun v8 sh8 V8 n8 hp8 => ?_)
  obtain ⟨ea8, eb8, ec8, hM8, hth, hO8⟩ := hp8
  cases ea8
  obtain rfl := eb8.symm
  obtain rfl := ec8.symm
  have hF := lw_fin (t := j + 1) e1 e2 e3 hL hm (hM8.mono (fun i _ => ⟨Nat.le_succ _, by omega⟩)) hO8 ho hJ.mono
  refine fs_icmp_eq (pc2 := 903) (kl_at_12 rfl) rfl rfl (fun h900 => ?_) (fun h900 => absurd rfl h900)
  first | exact hN [(5, .int _)] _ _ _ _ _ (Or.inr (Or.inl ⟨_, rfl⟩)) hF (by omega) (by omega) | exact hN [(5, .int _), (6, .int _)] _ _ _ _ _ (Or.inr (Or.inr ⟨_, _, rfl⟩)) hF (by omega) (by omega) | exact hN [] _ _ _ _ _ (Or.inl rfl) hF (by omega) (by omega)
set_option maxRecDepth 100000 in
set_option maxHeartbeats 4000000 in
theorem lc_octet_2 {u5 u6 : Int32} (hext : ev_HX l D cy zF ext) (hst : l.stackTraces = false) (hA : AlOK cy z0 a0 ext) (e1 : mb = c + 374) (e2 : oo = c + 420) (e3 : K = c + 421) (hI : LI K a0 c mb oo sh V n j) (hj : j < 512) (hx : 6 * j + 6 ≤ Lx) (hLx : Lx ≤ 3072) (hc : cc + 4 ≤ 601024) (hsl : sl + 740 ≤ 7293034) (hN : ∀ T' sh' V' n' c' sl', TS T' → LI K a0 c mb oo sh' V' n' (j + 1) → c' ≤ cc + 4 → sl' ≤ sl + 740 → lQ l D cy zF z0 ext b Lx xs Ret 1053 ([(0, .ref b), (1, .ref (z0 + c)), (2, .ref (z0 + mb)), (3, .ref (z0 + oo)), (4, .int (nI (6 * j)))] ++ T') [] sh' V' n' c' sl') : lQ l D cy zF z0 ext b Lx xs Ret 880 ([(0, .ref b), (1, .ref (z0 + c)), (2, .ref (z0 + mb)), (3, .ref (z0 + oo)), (4, .int (nI (6 * j))), (5, .int u5), (6, .int u6)]) [] sh V n cc sl := by
  obtain ⟨E, R, S, HH, g, hL, hm, hM, ho, hJ⟩ := hI
  obtain ⟨m1, m2⟩ := id hm
  have hcl := hL.1
  unfold isCL at hcl
  have hKn := hL.Kn
  have hq1 : vp_in (nI (6 * j) + 1) Lx := by rw [show (nI (6 * j) + 1 : Int32) = nI (6 * j + 1) from by rw [show (1 : Int32) = nI 1 from rfl, nI_add]]; exact vp_in_nI (by omega) (by omega)
  refine fs_aload_n (pc2 := 881) (kl_at_12 rfl) rfl rfl rfl ?_
  refine fs_aload_n (pc2 := 882) (kl_at_12 rfl) rfl rfl rfl ?_
  refine fs_iload (pc2 := 884) (kl_at_12 rfl) rfl rfl rfl ?_
  refine fs_iconst (pc2 := 885) (kl_at_12 rfl) rfl rfl ?_
  refine fs_iadd (pc2 := 886) (kl_at_12 rfl) rfl rfl ?_
  refine lw_scr (pc2 := 887) (kl_at_12 rfl) rfl hq1 ?_
  refine lw_callv (dc := 0) (ds := 0) (pc2 := 890) (kl_at_12 rfl) rfl rfl rfl ⟨rfl, rfl⟩ (Nat.le_of_ble_eq_true rfl) rfl rfl (by omega) (by omega) (fs_rcv rfl hcl) (e_octet (d := 13) hL) (fun v9 sh9 V9 n9 hp9 => ?_)
  obtain ⟨ea9, eb9, ec9, ed9⟩ := hp9
  cases ea9
  obtain rfl := eb9.symm
  obtain rfl := ec9.symm
  obtain rfl := ed9.symm
  refine fs_aload_n (pc2 := 891) (kl_at_12 rfl) rfl rfl rfl ?_
  refine fs_aload_n (pc2 := 892) (kl_at_12 rfl) rfl rfl rfl ?_
  refine fs_iload (pc2 := 894) (kl_at_12 rfl) rfl rfl rfl ?_
  refine fs_iconst (pc2 := 895) (kl_at_12 rfl) rfl rfl ?_
  refine fs_iadd (pc2 := 896) (kl_at_12 rfl) rfl rfl ?_
  refine lw_scr (pc2 := 897) (kl_at_12 rfl) rfl hq1 ?_
  refine lw_callv (dc := 0) (ds := 0) (pc2 := 900) (kl_at_12 rfl) rfl rfl rfl ⟨rfl, rfl⟩ (Nat.le_of_ble_eq_true rfl) rfl rfl (by omega) (by omega) (fs_rcv rfl m1) (m_octet (d := 13) hm hM) (fun v8 sh8 V8 n8 hp8 => ?_)
  obtain ⟨ea8, eb8, ec8, hM8, hth, hO8⟩ := hp8
  cases ea8
  obtain rfl := eb8.symm
  obtain rfl := ec8.symm
  have hF := lw_fin (t := j + 1) e1 e2 e3 hL hm (hM8.mono (fun i _ => ⟨Nat.le_succ _, by omega⟩)) hO8 ho hJ.mono
  refine fs_icmp_eq (pc2 := 903) (kl_at_12 rfl) rfl rfl (fun h900 => ?_) (fun h900 => absurd rfl h900)
  first | exact hN [(5, .int _)] _ _ _ _ _ (Or.inr (Or.inl ⟨_, rfl⟩)) hF (by omega) (by omega) | exact hN [(5, .int _), (6, .int _)] _ _ _ _ _ (Or.inr (Or.inr ⟨_, _, rfl⟩)) hF (by omega) (by omega) | exact hN [] _ _ _ _ _ (Or.inl rfl) hF (by omega) (by omega)
set_option maxRecDepth 100000 in
set_option maxHeartbeats 4000000 in
theorem lc_channel_0 (hext : ev_HX l D cy zF ext) (hst : l.stackTraces = false) (hA : AlOK cy z0 a0 ext) (e1 : mb = c + 374) (e2 : oo = c + 420) (e3 : K = c + 421) (hI : LI K a0 c mb oo sh V n j) (hj : j < 512) (hx : 6 * j + 6 ≤ Lx) (hLx : Lx ≤ 3072) (hc : cc + 4 ≤ 601024) (hsl : sl + 740 ≤ 7293034) (hN : ∀ T' sh' V' n' c' sl', TS T' → LI K a0 c mb oo sh' V' n' (j + 1) → c' ≤ cc + 4 → sl' ≤ sl + 740 → lQ l D cy zF z0 ext b Lx xs Ret 1053 ([(0, .ref b), (1, .ref (z0 + c)), (2, .ref (z0 + mb)), (3, .ref (z0 + oo)), (4, .int (nI (6 * j)))] ++ T') [] sh' V' n' c' sl') : lQ l D cy zF z0 ext b Lx xs Ret 905 ([(0, .ref b), (1, .ref (z0 + c)), (2, .ref (z0 + mb)), (3, .ref (z0 + oo)), (4, .int (nI (6 * j)))]) [] sh V n cc sl := by
  obtain ⟨E, R, S, HH, g, hL, hm, hM, ho, hJ⟩ := hI
  obtain ⟨m1, m2⟩ := id hm
  have hcl := hL.1
  unfold isCL at hcl
  have hKn := hL.Kn
  have hq1 : vp_in (nI (6 * j) + 1) Lx := by rw [show (nI (6 * j) + 1 : Int32) = nI (6 * j + 1) from by rw [show (1 : Int32) = nI 1 from rfl, nI_add]]; exact vp_in_nI (by omega) (by omega)
  have hq2 : vp_in (nI (6 * j) + 2) Lx := by rw [show (nI (6 * j) + 2 : Int32) = nI (6 * j + 2) from by rw [show (2 : Int32) = nI 2 from rfl, nI_add]]; exact vp_in_nI (by omega) (by omega)
  have hq3 : vp_in (nI (6 * j) + 3) Lx := by rw [show (nI (6 * j) + 3 : Int32) = nI (6 * j + 3) from by rw [show (3 : Int32) = nI 3 from rfl, nI_add]]; exact vp_in_nI (by omega) (by omega)
  obtain ⟨k, x, S', HH', hkm, hJ', hsame, hC, hMP⟩ := tie_channel (K := K) (c := c) (mb := mb) (S := S) hext hst hJ hj (u := (xs (nI (6 * j) + 1).toNatClampNeg)) (w := (xs (nI (6 * j) + 2).toNatClampNeg)) (x := (xs (nI (6 * j) + 3).toNatClampNeg))
  refine fs_aload_n (pc2 := 906) (kl_at_13 rfl) rfl rfl rfl ?_
  refine fs_aload_n (pc2 := 907) (kl_at_13 rfl) rfl rfl rfl ?_
  refine fs_iload (pc2 := 909) (kl_at_13 rfl) rfl rfl rfl ?_
  refine fs_iconst (pc2 := 910) (kl_at_13 rfl) rfl rfl ?_
  refine fs_iadd (pc2 := 911) (kl_at_13 rfl) rfl rfl ?_
  refine lw_scr (pc2 := 912) (kl_at_13 rfl) rfl hq1 ?_
  refine fs_aload_n (pc2 := 913) (kl_at_13 rfl) rfl rfl rfl ?_
  refine fs_iload (pc2 := 915) (kl_at_13 rfl) rfl rfl rfl ?_
  refine fs_iconst (pc2 := 916) (kl_at_13 rfl) rfl rfl ?_
  refine fs_iadd (pc2 := 917) (kl_at_13 rfl) rfl rfl ?_
  refine lw_scr (pc2 := 918) (kl_at_13 rfl) rfl hq2 ?_
  refine fs_aload_n (pc2 := 919) (kl_at_13 rfl) rfl rfl rfl ?_
  refine fs_iload (pc2 := 921) (kl_at_13 rfl) rfl rfl rfl ?_
  refine fs_iconst (pc2 := 922) (kl_at_13 rfl) rfl rfl ?_
  refine fs_iadd (pc2 := 923) (kl_at_13 rfl) rfl rfl ?_
  refine lw_scr (pc2 := 924) (kl_at_13 rfl) rfl hq3 ?_
  refine fs_aload_n (pc2 := 925) (kl_at_13 rfl) rfl rfl rfl ?_
  refine lw_hlp (dc := 4) (ds := 740) (pc2 := 928) (kl_at_13 rfl) rfl kw_L_channel (h_channel hcl hkm (fun v sh' V' n' h => ⟨h.1, by rw [h.2.2.2.2 oo (by omega) (by omega)]; exact ho⟩) (hC sh V n E R hL)) rfl rfl (Nat.le_of_ble_eq_true rfl) rfl rfl hc hsl (fun v9 sh9 V9 n9 hp9 => ?_)
  obtain ⟨ea9, hp9⟩ := hp9
  cases ea9
  obtain ⟨E9, R9, g9, hL9, hm9, hM9, ho9, hv9⟩ := lw_aft (a := mkI x) e1 e2 e3 hL hm hM ho hsame hp9
  obtain ⟨m3, m4⟩ := id hm9
  refine fs_istore (pc2 := 930) (kl_at_13 rfl) rfl rfl (Nat.le_of_ble_eq_true rfl) ?_
  refine fs_aload_n (pc2 := 931) (kl_at_13 rfl) rfl rfl rfl ?_
  refine fs_aload_n (pc2 := 932) (kl_at_13 rfl) rfl rfl rfl ?_
  refine fs_iload (pc2 := 934) (kl_at_13 rfl) rfl rfl rfl ?_
  refine fs_iconst (pc2 := 935) (kl_at_13 rfl) rfl rfl ?_
  refine fs_iadd (pc2 := 936) (kl_at_13 rfl) rfl rfl ?_
  refine lw_scr (pc2 := 937) (kl_at_13 rfl) rfl hq1 ?_
  refine fs_aload_n (pc2 := 938) (kl_at_13 rfl) rfl rfl rfl ?_
  refine fs_iload (pc2 := 940) (kl_at_13 rfl) rfl rfl rfl ?_
  refine fs_iconst (pc2 := 941) (kl_at_13 rfl) rfl rfl ?_
  refine fs_iadd (pc2 := 942) (kl_at_13 rfl) rfl rfl ?_
  refine lw_scr (pc2 := 943) (kl_at_13 rfl) rfl hq2 ?_
  refine fs_aload_n (pc2 := 944) (kl_at_13 rfl) rfl rfl rfl ?_
  refine fs_iload (pc2 := 946) (kl_at_13 rfl) rfl rfl rfl ?_
  refine fs_iconst (pc2 := 947) (kl_at_13 rfl) rfl rfl ?_
  refine fs_iadd (pc2 := 948) (kl_at_13 rfl) rfl rfl ?_
  refine lw_scr (pc2 := 949) (kl_at_13 rfl) rfl hq3 ?_
  refine lw_callv (dc := 0) (ds := 0) (pc2 := 952) (kl_at_13 rfl) rfl rfl rfl ⟨rfl, rfl⟩ (Nat.le_of_ble_eq_true rfl) rfl rfl (by omega) (by omega) (fs_rcv rfl m3) (hMP _ _ _ hm9 hM9) (fun v8 sh8 V8 n8 hp8 => ?_)
  obtain ⟨ea8, eb8, ec8, hM8, hth, hO8⟩ := hp8
  rw [mk_if] at ea8
  cases ea8
  obtain rfl := eb8.symm
  obtain rfl := ec8.symm
  have hF := lw_fin e1 e2 e3 hL9 hm9 hM8 hO8 ho9 hJ'
  refine fs_istore (pc2 := 954) (kl_at_13 rfl) rfl rfl (Nat.le_of_ble_eq_true rfl) ?_
  refine fs_aload_n (pc2 := 955) (kl_at_13 rfl) rfl rfl rfl ?_
  refine lw_callv (dc := 0) (ds := 0) (pc2 := 958) (kl_at_13 rfl) rfl rfl rfl ⟨rfl, rfl⟩ (Nat.le_of_ble_eq_true rfl) rfl rfl (by omega) (by omega) (fs_rcv rfl m3) (m_thrown hm9) (fun v9 sh9 V9 n9 hp9 => ?_)
  obtain ⟨ea9, eb9, ec9, ed9⟩ := hp9
  cases ea9
  obtain rfl := eb9.symm
  obtain rfl := ec9.symm
  obtain rfl := ed9.symm
  rw [hth]
  refine fs_iload (pc2 := 960) (kl_at_13 rfl) rfl rfl rfl ?_
  refine fs_icmp_eq (pc2 := 963) (kl_at_13 rfl) rfl rfl (fun h960 => ?_) (fun h960 => absurd rfl h960)
  refine fs_iload (pc2 := 967) (kl_at_13 rfl) rfl rfl rfl ?_
  refine fs_if_ne (pc2 := 970) (kl_at_13 rfl) rfl rfl (fun h967 => ?_) (fun h967 => ?_)
  · refine fs_goto (kl_at_13 rfl) rfl ?_
    first | exact hN [(5, .int _)] _ _ _ _ _ (Or.inr (Or.inl ⟨_, rfl⟩)) hF (by omega) (by omega) | exact hN [(5, .int _), (6, .int _)] _ _ _ _ _ (Or.inr (Or.inr ⟨_, _, rfl⟩)) hF (by omega) (by omega) | exact hN [] _ _ _ _ _ (Or.inl rfl) hF (by omega) (by omega)
  · have hk0 : k = 0 := c_eq (a := k) (b := 0) h967 rfl rfl (by omega) (by omega)
    rw [if_pos hk0]
    refine fs_aload_n (pc2 := 971) (kl_at_13 rfl) rfl rfl rfl ?_
    refine fs_iconst (pc2 := 972) (kl_at_13 rfl) rfl rfl ?_
    refine fs_lald (pc2 := 973) (kl_at_13 rfl) rfl rfl ho9 (vp_in_nI (n := 0) (by decide) (by decide)) ?_
    refine fs_iload (pc2 := 975) (kl_at_13 rfl) rfl rfl rfl ?_
    refine fs_i2l (pc2 := 976) (kl_at_13 rfl) rfl rfl ?_
    refine fs_lcmp (pc2 := 977) (kl_at_13 rfl) rfl rfl ?_
    rw [hv9 hk0]
    refine fs_if_eq (pc2 := 980) (kl_at_13 rfl) rfl rfl (fun h977 => ?_) (fun h977 => absurd (lg_cmp_self _) h977)
    refine fs_goto (kl_at_13 rfl) rfl ?_
    first | exact hN [(5, .int _)] _ _ _ _ _ (Or.inr (Or.inl ⟨_, rfl⟩)) hF (by omega) (by omega) | exact hN [(5, .int _), (6, .int _)] _ _ _ _ _ (Or.inr (Or.inr ⟨_, _, rfl⟩)) hF (by omega) (by omega) | exact hN [] _ _ _ _ _ (Or.inl rfl) hF (by omega) (by omega)
set_option maxRecDepth 100000 in
set_option maxHeartbeats 4000000 in
theorem lc_channel_1 {u5 : Int32} (hext : ev_HX l D cy zF ext) (hst : l.stackTraces = false) (hA : AlOK cy z0 a0 ext) (e1 : mb = c + 374) (e2 : oo = c + 420) (e3 : K = c + 421) (hI : LI K a0 c mb oo sh V n j) (hj : j < 512) (hx : 6 * j + 6 ≤ Lx) (hLx : Lx ≤ 3072) (hc : cc + 4 ≤ 601024) (hsl : sl + 740 ≤ 7293034) (hN : ∀ T' sh' V' n' c' sl', TS T' → LI K a0 c mb oo sh' V' n' (j + 1) → c' ≤ cc + 4 → sl' ≤ sl + 740 → lQ l D cy zF z0 ext b Lx xs Ret 1053 ([(0, .ref b), (1, .ref (z0 + c)), (2, .ref (z0 + mb)), (3, .ref (z0 + oo)), (4, .int (nI (6 * j)))] ++ T') [] sh' V' n' c' sl') : lQ l D cy zF z0 ext b Lx xs Ret 905 ([(0, .ref b), (1, .ref (z0 + c)), (2, .ref (z0 + mb)), (3, .ref (z0 + oo)), (4, .int (nI (6 * j))), (5, .int u5)]) [] sh V n cc sl := by
  obtain ⟨E, R, S, HH, g, hL, hm, hM, ho, hJ⟩ := hI
  obtain ⟨m1, m2⟩ := id hm
  have hcl := hL.1
  unfold isCL at hcl
  have hKn := hL.Kn
  have hq1 : vp_in (nI (6 * j) + 1) Lx := by rw [show (nI (6 * j) + 1 : Int32) = nI (6 * j + 1) from by rw [show (1 : Int32) = nI 1 from rfl, nI_add]]; exact vp_in_nI (by omega) (by omega)
  have hq2 : vp_in (nI (6 * j) + 2) Lx := by rw [show (nI (6 * j) + 2 : Int32) = nI (6 * j + 2) from by rw [show (2 : Int32) = nI 2 from rfl, nI_add]]; exact vp_in_nI (by omega) (by omega)
  have hq3 : vp_in (nI (6 * j) + 3) Lx := by rw [show (nI (6 * j) + 3 : Int32) = nI (6 * j + 3) from by rw [show (3 : Int32) = nI 3 from rfl, nI_add]]; exact vp_in_nI (by omega) (by omega)
  obtain ⟨k, x, S', HH', hkm, hJ', hsame, hC, hMP⟩ := tie_channel (K := K) (c := c) (mb := mb) (S := S) hext hst hJ hj (u := (xs (nI (6 * j) + 1).toNatClampNeg)) (w := (xs (nI (6 * j) + 2).toNatClampNeg)) (x := (xs (nI (6 * j) + 3).toNatClampNeg))
  refine fs_aload_n (pc2 := 906) (kl_at_13 rfl) rfl rfl rfl ?_
  refine fs_aload_n (pc2 := 907) (kl_at_13 rfl) rfl rfl rfl ?_
  refine fs_iload (pc2 := 909) (kl_at_13 rfl) rfl rfl rfl ?_
  refine fs_iconst (pc2 := 910) (kl_at_13 rfl) rfl rfl ?_
  refine fs_iadd (pc2 := 911) (kl_at_13 rfl) rfl rfl ?_
  refine lw_scr (pc2 := 912) (kl_at_13 rfl) rfl hq1 ?_
  refine fs_aload_n (pc2 := 913) (kl_at_13 rfl) rfl rfl rfl ?_
  refine fs_iload (pc2 := 915) (kl_at_13 rfl) rfl rfl rfl ?_
  refine fs_iconst (pc2 := 916) (kl_at_13 rfl) rfl rfl ?_
  refine fs_iadd (pc2 := 917) (kl_at_13 rfl) rfl rfl ?_
  refine lw_scr (pc2 := 918) (kl_at_13 rfl) rfl hq2 ?_
  refine fs_aload_n (pc2 := 919) (kl_at_13 rfl) rfl rfl rfl ?_
  refine fs_iload (pc2 := 921) (kl_at_13 rfl) rfl rfl rfl ?_
  refine fs_iconst (pc2 := 922) (kl_at_13 rfl) rfl rfl ?_
  refine fs_iadd (pc2 := 923) (kl_at_13 rfl) rfl rfl ?_
  refine lw_scr (pc2 := 924) (kl_at_13 rfl) rfl hq3 ?_
  refine fs_aload_n (pc2 := 925) (kl_at_13 rfl) rfl rfl rfl ?_
  refine lw_hlp (dc := 4) (ds := 740) (pc2 := 928) (kl_at_13 rfl) rfl kw_L_channel (h_channel hcl hkm (fun v sh' V' n' h => ⟨h.1, by rw [h.2.2.2.2 oo (by omega) (by omega)]; exact ho⟩) (hC sh V n E R hL)) rfl rfl (Nat.le_of_ble_eq_true rfl) rfl rfl hc hsl (fun v9 sh9 V9 n9 hp9 => ?_)
  obtain ⟨ea9, hp9⟩ := hp9
  cases ea9
  obtain ⟨E9, R9, g9, hL9, hm9, hM9, ho9, hv9⟩ := lw_aft (a := mkI x) e1 e2 e3 hL hm hM ho hsame hp9
  obtain ⟨m3, m4⟩ := id hm9
  refine fs_istore (pc2 := 930) (kl_at_13 rfl) rfl rfl (Nat.le_of_ble_eq_true rfl) ?_
  refine fs_aload_n (pc2 := 931) (kl_at_13 rfl) rfl rfl rfl ?_
  refine fs_aload_n (pc2 := 932) (kl_at_13 rfl) rfl rfl rfl ?_
  refine fs_iload (pc2 := 934) (kl_at_13 rfl) rfl rfl rfl ?_
  refine fs_iconst (pc2 := 935) (kl_at_13 rfl) rfl rfl ?_
  refine fs_iadd (pc2 := 936) (kl_at_13 rfl) rfl rfl ?_
  refine lw_scr (pc2 := 937) (kl_at_13 rfl) rfl hq1 ?_
  refine fs_aload_n (pc2 := 938) (kl_at_13 rfl) rfl rfl rfl ?_
  refine fs_iload (pc2 := 940) (kl_at_13 rfl) rfl rfl rfl ?_
  refine fs_iconst (pc2 := 941) (kl_at_13 rfl) rfl rfl ?_
  refine fs_iadd (pc2 := 942) (kl_at_13 rfl) rfl rfl ?_
  refine lw_scr (pc2 := 943) (kl_at_13 rfl) rfl hq2 ?_
  refine fs_aload_n (pc2 := 944) (kl_at_13 rfl) rfl rfl rfl ?_
  refine fs_iload (pc2 := 946) (kl_at_13 rfl) rfl rfl rfl ?_
  refine fs_iconst (pc2 := 947) (kl_at_13 rfl) rfl rfl ?_
  refine fs_iadd (pc2 := 948) (kl_at_13 rfl) rfl rfl ?_
  refine lw_scr (pc2 := 949) (kl_at_13 rfl) rfl hq3 ?_
  refine lw_callv (dc := 0) (ds := 0) (pc2 := 952) (kl_at_13 rfl) rfl rfl rfl ⟨rfl, rfl⟩ (Nat.le_of_ble_eq_true rfl) rfl rfl (by omega) (by omega) (fs_rcv rfl m3) (hMP _ _ _ hm9 hM9) (fun v8 sh8 V8 n8 hp8 => ?_)
  obtain ⟨ea8, eb8, ec8, hM8, hth, hO8⟩ := hp8
  rw [mk_if] at ea8
  cases ea8
  obtain rfl := eb8.symm
  obtain rfl := ec8.symm
  have hF := lw_fin e1 e2 e3 hL9 hm9 hM8 hO8 ho9 hJ'
  refine fs_istore (pc2 := 954) (kl_at_13 rfl) rfl rfl (Nat.le_of_ble_eq_true rfl) ?_
  refine fs_aload_n (pc2 := 955) (kl_at_13 rfl) rfl rfl rfl ?_
  refine lw_callv (dc := 0) (ds := 0) (pc2 := 958) (kl_at_13 rfl) rfl rfl rfl ⟨rfl, rfl⟩ (Nat.le_of_ble_eq_true rfl) rfl rfl (by omega) (by omega) (fs_rcv rfl m3) (m_thrown hm9) (fun v9 sh9 V9 n9 hp9 => ?_)
  obtain ⟨ea9, eb9, ec9, ed9⟩ := hp9
  cases ea9
  obtain rfl := eb9.symm
  obtain rfl := ec9.symm
  obtain rfl := ed9.symm
  rw [hth]
  refine fs_iload (pc2 := 960) (kl_at_13 rfl) rfl rfl rfl ?_
  refine fs_icmp_eq (pc2 := 963) (kl_at_13 rfl) rfl rfl (fun h960 => ?_) (fun h960 => absurd rfl h960)
  refine fs_iload (pc2 := 967) (kl_at_13 rfl) rfl rfl rfl ?_
  refine fs_if_ne (pc2 := 970) (kl_at_13 rfl) rfl rfl (fun h967 => ?_) (fun h967 => ?_)
  · refine fs_goto (kl_at_13 rfl) rfl ?_
    first | exact hN [(5, .int _)] _ _ _ _ _ (Or.inr (Or.inl ⟨_, rfl⟩)) hF (by omega) (by omega) | exact hN [(5, .int _), (6, .int _)] _ _ _ _ _ (Or.inr (Or.inr ⟨_, _, rfl⟩)) hF (by omega) (by omega) | exact hN [] _ _ _ _ _ (Or.inl rfl) hF (by omega) (by omega)
  · have hk0 : k = 0 := c_eq (a := k) (b := 0) h967 rfl rfl (by omega) (by omega)
    rw [if_pos hk0]
    refine fs_aload_n (pc2 := 971) (kl_at_13 rfl) rfl rfl rfl ?_
    refine fs_iconst (pc2 := 972) (kl_at_13 rfl) rfl rfl ?_
    refine fs_lald (pc2 := 973) (kl_at_13 rfl) rfl rfl ho9 (vp_in_nI (n := 0) (by decide) (by decide)) ?_
    refine fs_iload (pc2 := 975) (kl_at_13 rfl) rfl rfl rfl ?_
    refine fs_i2l (pc2 := 976) (kl_at_13 rfl) rfl rfl ?_
    refine fs_lcmp (pc2 := 977) (kl_at_13 rfl) rfl rfl ?_
    rw [hv9 hk0]
    refine fs_if_eq (pc2 := 980) (kl_at_13 rfl) rfl rfl (fun h977 => ?_) (fun h977 => absurd (lg_cmp_self _) h977)
    refine fs_goto (kl_at_13 rfl) rfl ?_
    first | exact hN [(5, .int _)] _ _ _ _ _ (Or.inr (Or.inl ⟨_, rfl⟩)) hF (by omega) (by omega) | exact hN [(5, .int _), (6, .int _)] _ _ _ _ _ (Or.inr (Or.inr ⟨_, _, rfl⟩)) hF (by omega) (by omega) | exact hN [] _ _ _ _ _ (Or.inl rfl) hF (by omega) (by omega)
set_option maxRecDepth 100000 in
set_option maxHeartbeats 4000000 in
theorem lc_channel_2 {u5 u6 : Int32} (hext : ev_HX l D cy zF ext) (hst : l.stackTraces = false) (hA : AlOK cy z0 a0 ext) (e1 : mb = c + 374) (e2 : oo = c + 420) (e3 : K = c + 421) (hI : LI K a0 c mb oo sh V n j) (hj : j < 512) (hx : 6 * j + 6 ≤ Lx) (hLx : Lx ≤ 3072) (hc : cc + 4 ≤ 601024) (hsl : sl + 740 ≤ 7293034) (hN : ∀ T' sh' V' n' c' sl', TS T' → LI K a0 c mb oo sh' V' n' (j + 1) → c' ≤ cc + 4 → sl' ≤ sl + 740 → lQ l D cy zF z0 ext b Lx xs Ret 1053 ([(0, .ref b), (1, .ref (z0 + c)), (2, .ref (z0 + mb)), (3, .ref (z0 + oo)), (4, .int (nI (6 * j)))] ++ T') [] sh' V' n' c' sl') : lQ l D cy zF z0 ext b Lx xs Ret 905 ([(0, .ref b), (1, .ref (z0 + c)), (2, .ref (z0 + mb)), (3, .ref (z0 + oo)), (4, .int (nI (6 * j))), (5, .int u5), (6, .int u6)]) [] sh V n cc sl := by
  obtain ⟨E, R, S, HH, g, hL, hm, hM, ho, hJ⟩ := hI
  obtain ⟨m1, m2⟩ := id hm
  have hcl := hL.1
  unfold isCL at hcl
  have hKn := hL.Kn
  have hq1 : vp_in (nI (6 * j) + 1) Lx := by rw [show (nI (6 * j) + 1 : Int32) = nI (6 * j + 1) from by rw [show (1 : Int32) = nI 1 from rfl, nI_add]]; exact vp_in_nI (by omega) (by omega)
  have hq2 : vp_in (nI (6 * j) + 2) Lx := by rw [show (nI (6 * j) + 2 : Int32) = nI (6 * j + 2) from by rw [show (2 : Int32) = nI 2 from rfl, nI_add]]; exact vp_in_nI (by omega) (by omega)
  have hq3 : vp_in (nI (6 * j) + 3) Lx := by rw [show (nI (6 * j) + 3 : Int32) = nI (6 * j + 3) from by rw [show (3 : Int32) = nI 3 from rfl, nI_add]]; exact vp_in_nI (by omega) (by omega)
  obtain ⟨k, x, S', HH', hkm, hJ', hsame, hC, hMP⟩ := tie_channel (K := K) (c := c) (mb := mb) (S := S) hext hst hJ hj (u := (xs (nI (6 * j) + 1).toNatClampNeg)) (w := (xs (nI (6 * j) + 2).toNatClampNeg)) (x := (xs (nI (6 * j) + 3).toNatClampNeg))
  refine fs_aload_n (pc2 := 906) (kl_at_13 rfl) rfl rfl rfl ?_
  refine fs_aload_n (pc2 := 907) (kl_at_13 rfl) rfl rfl rfl ?_
  refine fs_iload (pc2 := 909) (kl_at_13 rfl) rfl rfl rfl ?_
  refine fs_iconst (pc2 := 910) (kl_at_13 rfl) rfl rfl ?_
  refine fs_iadd (pc2 := 911) (kl_at_13 rfl) rfl rfl ?_
  refine lw_scr (pc2 := 912) (kl_at_13 rfl) rfl hq1 ?_
  refine fs_aload_n (pc2 := 913) (kl_at_13 rfl) rfl rfl rfl ?_
  refine fs_iload (pc2 := 915) (kl_at_13 rfl) rfl rfl rfl ?_
  refine fs_iconst (pc2 := 916) (kl_at_13 rfl) rfl rfl ?_
  refine fs_iadd (pc2 := 917) (kl_at_13 rfl) rfl rfl ?_
  refine lw_scr (pc2 := 918) (kl_at_13 rfl) rfl hq2 ?_
  refine fs_aload_n (pc2 := 919) (kl_at_13 rfl) rfl rfl rfl ?_
  refine fs_iload (pc2 := 921) (kl_at_13 rfl) rfl rfl rfl ?_
  refine fs_iconst (pc2 := 922) (kl_at_13 rfl) rfl rfl ?_
  refine fs_iadd (pc2 := 923) (kl_at_13 rfl) rfl rfl ?_
  refine lw_scr (pc2 := 924) (kl_at_13 rfl) rfl hq3 ?_
  refine fs_aload_n (pc2 := 925) (kl_at_13 rfl) rfl rfl rfl ?_
  refine lw_hlp (dc := 4) (ds := 740) (pc2 := 928) (kl_at_13 rfl) rfl kw_L_channel (h_channel hcl hkm (fun v sh' V' n' h => ⟨h.1, by rw [h.2.2.2.2 oo (by omega) (by omega)]; exact ho⟩) (hC sh V n E R hL)) rfl rfl (Nat.le_of_ble_eq_true rfl) rfl rfl hc hsl (fun v9 sh9 V9 n9 hp9 => ?_)
  obtain ⟨ea9, hp9⟩ := hp9
  cases ea9
  obtain ⟨E9, R9, g9, hL9, hm9, hM9, ho9, hv9⟩ := lw_aft (a := mkI x) e1 e2 e3 hL hm hM ho hsame hp9
  obtain ⟨m3, m4⟩ := id hm9
  refine fs_istore (pc2 := 930) (kl_at_13 rfl) rfl rfl (Nat.le_of_ble_eq_true rfl) ?_
  refine fs_aload_n (pc2 := 931) (kl_at_13 rfl) rfl rfl rfl ?_
  refine fs_aload_n (pc2 := 932) (kl_at_13 rfl) rfl rfl rfl ?_
  refine fs_iload (pc2 := 934) (kl_at_13 rfl) rfl rfl rfl ?_
  refine fs_iconst (pc2 := 935) (kl_at_13 rfl) rfl rfl ?_
  refine fs_iadd (pc2 := 936) (kl_at_13 rfl) rfl rfl ?_
  refine lw_scr (pc2 := 937) (kl_at_13 rfl) rfl hq1 ?_
  refine fs_aload_n (pc2 := 938) (kl_at_13 rfl) rfl rfl rfl ?_
  refine fs_iload (pc2 := 940) (kl_at_13 rfl) rfl rfl rfl ?_
  refine fs_iconst (pc2 := 941) (kl_at_13 rfl) rfl rfl ?_
  refine fs_iadd (pc2 := 942) (kl_at_13 rfl) rfl rfl ?_
  refine lw_scr (pc2 := 943) (kl_at_13 rfl) rfl hq2 ?_
  refine fs_aload_n (pc2 := 944) (kl_at_13 rfl) rfl rfl rfl ?_
  refine fs_iload (pc2 := 946) (kl_at_13 rfl) rfl rfl rfl ?_
  refine fs_iconst (pc2 := 947) (kl_at_13 rfl) rfl rfl ?_
  refine fs_iadd (pc2 := 948) (kl_at_13 rfl) rfl rfl ?_
  refine lw_scr (pc2 := 949) (kl_at_13 rfl) rfl hq3 ?_
  refine lw_callv (dc := 0) (ds := 0) (pc2 := 952) (kl_at_13 rfl) rfl rfl rfl ⟨rfl, rfl⟩ (Nat.le_of_ble_eq_true rfl) rfl rfl (by omega) (by omega) (fs_rcv rfl m3) (hMP _ _ _ hm9 hM9) (fun v8 sh8 V8 n8 hp8 => ?_)
  obtain ⟨ea8, eb8, ec8, hM8, hth, hO8⟩ := hp8
  rw [mk_if] at ea8
  cases ea8
  obtain rfl := eb8.symm
  obtain rfl := ec8.symm
  have hF := lw_fin e1 e2 e3 hL9 hm9 hM8 hO8 ho9 hJ'
  refine fs_istore (pc2 := 954) (kl_at_13 rfl) rfl rfl (Nat.le_of_ble_eq_true rfl) ?_
  refine fs_aload_n (pc2 := 955) (kl_at_13 rfl) rfl rfl rfl ?_
  refine lw_callv (dc := 0) (ds := 0) (pc2 := 958) (kl_at_13 rfl) rfl rfl rfl ⟨rfl, rfl⟩ (Nat.le_of_ble_eq_true rfl) rfl rfl (by omega) (by omega) (fs_rcv rfl m3) (m_thrown hm9) (fun v9 sh9 V9 n9 hp9 => ?_)
  obtain ⟨ea9, eb9, ec9, ed9⟩ := hp9
  cases ea9
  obtain rfl := eb9.symm
  obtain rfl := ec9.symm
  obtain rfl := ed9.symm
  rw [hth]
  refine fs_iload (pc2 := 960) (kl_at_13 rfl) rfl rfl rfl ?_
  refine fs_icmp_eq (pc2 := 963) (kl_at_13 rfl) rfl rfl (fun h960 => ?_) (fun h960 => absurd rfl h960)
  refine fs_iload (pc2 := 967) (kl_at_13 rfl) rfl rfl rfl ?_
  refine fs_if_ne (pc2 := 970) (kl_at_13 rfl) rfl rfl (fun h967 => ?_) (fun h967 => ?_)
  · refine fs_goto (kl_at_13 rfl) rfl ?_
    first | exact hN [(5, .int _)] _ _ _ _ _ (Or.inr (Or.inl ⟨_, rfl⟩)) hF (by omega) (by omega) | exact hN [(5, .int _), (6, .int _)] _ _ _ _ _ (Or.inr (Or.inr ⟨_, _, rfl⟩)) hF (by omega) (by omega) | exact hN [] _ _ _ _ _ (Or.inl rfl) hF (by omega) (by omega)
  · have hk0 : k = 0 := c_eq (a := k) (b := 0) h967 rfl rfl (by omega) (by omega)
    rw [if_pos hk0]
    refine fs_aload_n (pc2 := 971) (kl_at_13 rfl) rfl rfl rfl ?_
    refine fs_iconst (pc2 := 972) (kl_at_13 rfl) rfl rfl ?_
    refine fs_lald (pc2 := 973) (kl_at_13 rfl) rfl rfl ho9 (vp_in_nI (n := 0) (by decide) (by decide)) ?_
    refine fs_iload (pc2 := 975) (kl_at_13 rfl) rfl rfl rfl ?_
    refine fs_i2l (pc2 := 976) (kl_at_13 rfl) rfl rfl ?_
    refine fs_lcmp (pc2 := 977) (kl_at_13 rfl) rfl rfl ?_
    rw [hv9 hk0]
    refine fs_if_eq (pc2 := 980) (kl_at_13 rfl) rfl rfl (fun h977 => ?_) (fun h977 => absurd (lg_cmp_self _) h977)
    refine fs_goto (kl_at_13 rfl) rfl ?_
    first | exact hN [(5, .int _)] _ _ _ _ _ (Or.inr (Or.inl ⟨_, rfl⟩)) hF (by omega) (by omega) | exact hN [(5, .int _), (6, .int _)] _ _ _ _ _ (Or.inr (Or.inr ⟨_, _, rfl⟩)) hF (by omega) (by omega) | exact hN [] _ _ _ _ _ (Or.inl rfl) hF (by omega) (by omega)
set_option maxRecDepth 100000 in
set_option maxHeartbeats 4000000 in
theorem lc_count_0 (hext : ev_HX l D cy zF ext) (hst : l.stackTraces = false) (hA : AlOK cy z0 a0 ext) (e1 : mb = c + 374) (e2 : oo = c + 420) (e3 : K = c + 421) (hI : LI K a0 c mb oo sh V n j) (hj : j < 512) (hx : 6 * j + 6 ≤ Lx) (hLx : Lx ≤ 3072) (hc : cc + 4 ≤ 601024) (hsl : sl + 740 ≤ 7293034) (hN : ∀ T' sh' V' n' c' sl', TS T' → LI K a0 c mb oo sh' V' n' (j + 1) → c' ≤ cc + 4 → sl' ≤ sl + 740 → lQ l D cy zF z0 ext b Lx xs Ret 1053 ([(0, .ref b), (1, .ref (z0 + c)), (2, .ref (z0 + mb)), (3, .ref (z0 + oo)), (4, .int (nI (6 * j)))] ++ T') [] sh' V' n' c' sl') : lQ l D cy zF z0 ext b Lx xs Ret 985 ([(0, .ref b), (1, .ref (z0 + c)), (2, .ref (z0 + mb)), (3, .ref (z0 + oo)), (4, .int (nI (6 * j)))]) [] sh V n cc sl := by
  obtain ⟨E, R, S, HH, g, hL, hm, hM, ho, hJ⟩ := hI
  obtain ⟨m1, m2⟩ := id hm
  have hcl := hL.1
  unfold isCL at hcl
  have hKn := hL.Kn
  have hq1 : vp_in (nI (6 * j) + 1) Lx := by rw [show (nI (6 * j) + 1 : Int32) = nI (6 * j + 1) from by rw [show (1 : Int32) = nI 1 from rfl, nI_add]]; exact vp_in_nI (by omega) (by omega)
  have hq2 : vp_in (nI (6 * j) + 2) Lx := by rw [show (nI (6 * j) + 2 : Int32) = nI (6 * j + 2) from by rw [show (2 : Int32) = nI 2 from rfl, nI_add]]; exact vp_in_nI (by omega) (by omega)
  obtain ⟨k, x, S', HH', hkm, hJ', hsame, hC, hMP⟩ := tie_count (K := K) (c := c) (mb := mb) (S := S) hext hst hJ hj (u := (xs (nI (6 * j) + 1).toNatClampNeg)) (w := (xs (nI (6 * j) + 2).toNatClampNeg))
  refine fs_aload_n (pc2 := 986) (kl_at_14 rfl) rfl rfl rfl ?_
  refine fs_aload_n (pc2 := 987) (kl_at_14 rfl) rfl rfl rfl ?_
  refine fs_iload (pc2 := 989) (kl_at_14 rfl) rfl rfl rfl ?_
  refine fs_iconst (pc2 := 990) (kl_at_14 rfl) rfl rfl ?_
  refine fs_iadd (pc2 := 991) (kl_at_14 rfl) rfl rfl ?_
  refine lw_scr (pc2 := 992) (kl_at_14 rfl) rfl hq1 ?_
  refine fs_aload_n (pc2 := 993) (kl_at_14 rfl) rfl rfl rfl ?_
  refine fs_iload (pc2 := 995) (kl_at_14 rfl) rfl rfl rfl ?_
  refine fs_iconst (pc2 := 996) (kl_at_14 rfl) rfl rfl ?_
  refine fs_iadd (pc2 := 997) (kl_at_14 rfl) rfl rfl ?_
  refine lw_scr (pc2 := 998) (kl_at_14 rfl) rfl hq2 ?_
  refine fs_aload_n (pc2 := 999) (kl_at_14 rfl) rfl rfl rfl ?_
  refine lw_hlp (dc := 4) (ds := 740) (pc2 := 1002) (kl_at_14 rfl) rfl kw_L_count (h_count hcl hkm (fun v sh' V' n' h => ⟨h.1, by rw [h.2.2.2.2 oo (by omega) (by omega)]; exact ho⟩) (hC sh V n E R hL)) rfl rfl (Nat.le_of_ble_eq_true rfl) rfl rfl hc hsl (fun v9 sh9 V9 n9 hp9 => ?_)
  obtain ⟨ea9, hp9⟩ := hp9
  cases ea9
  obtain ⟨E9, R9, g9, hL9, hm9, hM9, ho9, hv9⟩ := lw_aft (a := mkI x) e1 e2 e3 hL hm hM ho hsame hp9
  obtain ⟨m3, m4⟩ := id hm9
  refine fs_istore (pc2 := 1004) (kl_at_14 rfl) rfl rfl (Nat.le_of_ble_eq_true rfl) ?_
  refine fs_aload_n (pc2 := 1005) (kl_at_14 rfl) rfl rfl rfl ?_
  refine fs_aload_n (pc2 := 1006) (kl_at_14 rfl) rfl rfl rfl ?_
  refine fs_iload (pc2 := 1008) (kl_at_14 rfl) rfl rfl rfl ?_
  refine fs_iconst (pc2 := 1009) (kl_at_14 rfl) rfl rfl ?_
  refine fs_iadd (pc2 := 1010) (kl_at_14 rfl) rfl rfl ?_
  refine lw_scr (pc2 := 1011) (kl_at_14 rfl) rfl hq1 ?_
  refine fs_aload_n (pc2 := 1012) (kl_at_14 rfl) rfl rfl rfl ?_
  refine fs_iload (pc2 := 1014) (kl_at_14 rfl) rfl rfl rfl ?_
  refine fs_iconst (pc2 := 1015) (kl_at_14 rfl) rfl rfl ?_
  refine fs_iadd (pc2 := 1016) (kl_at_14 rfl) rfl rfl ?_
  refine lw_scr (pc2 := 1017) (kl_at_14 rfl) rfl hq2 ?_
  refine lw_callv (dc := 0) (ds := 0) (pc2 := 1020) (kl_at_14 rfl) rfl rfl rfl ⟨rfl, rfl⟩ (Nat.le_of_ble_eq_true rfl) rfl rfl (by omega) (by omega) (fs_rcv rfl m3) (hMP _ _ _ hm9 hM9) (fun v8 sh8 V8 n8 hp8 => ?_)
  obtain ⟨ea8, eb8, ec8, hM8, hth, hO8⟩ := hp8
  rw [mk_if] at ea8
  cases ea8
  obtain rfl := eb8.symm
  obtain rfl := ec8.symm
  have hF := lw_fin e1 e2 e3 hL9 hm9 hM8 hO8 ho9 hJ'
  refine fs_istore (pc2 := 1022) (kl_at_14 rfl) rfl rfl (Nat.le_of_ble_eq_true rfl) ?_
  refine fs_aload_n (pc2 := 1023) (kl_at_14 rfl) rfl rfl rfl ?_
  refine lw_callv (dc := 0) (ds := 0) (pc2 := 1026) (kl_at_14 rfl) rfl rfl rfl ⟨rfl, rfl⟩ (Nat.le_of_ble_eq_true rfl) rfl rfl (by omega) (by omega) (fs_rcv rfl m3) (m_thrown hm9) (fun v9 sh9 V9 n9 hp9 => ?_)
  obtain ⟨ea9, eb9, ec9, ed9⟩ := hp9
  cases ea9
  obtain rfl := eb9.symm
  obtain rfl := ec9.symm
  obtain rfl := ed9.symm
  rw [hth]
  refine fs_iload (pc2 := 1028) (kl_at_14 rfl) rfl rfl rfl ?_
  refine fs_icmp_eq (pc2 := 1031) (kl_at_14 rfl) rfl rfl (fun h1028 => ?_) (fun h1028 => absurd rfl h1028)
  refine fs_iload (pc2 := 1035) (kl_at_14 rfl) rfl rfl rfl ?_
  refine fs_if_ne (pc2 := 1038) (kl_at_14 rfl) rfl rfl (fun h1035 => ?_) (fun h1035 => ?_)
  · refine fs_goto (kl_at_14 rfl) rfl ?_
    first | exact hN [(5, .int _)] _ _ _ _ _ (Or.inr (Or.inl ⟨_, rfl⟩)) hF (by omega) (by omega) | exact hN [(5, .int _), (6, .int _)] _ _ _ _ _ (Or.inr (Or.inr ⟨_, _, rfl⟩)) hF (by omega) (by omega) | exact hN [] _ _ _ _ _ (Or.inl rfl) hF (by omega) (by omega)
  · have hk0 : k = 0 := c_eq (a := k) (b := 0) h1035 rfl rfl (by omega) (by omega)
    rw [if_pos hk0]
    refine fs_aload_n (pc2 := 1039) (kl_at_14 rfl) rfl rfl rfl ?_
    refine fs_iconst (pc2 := 1040) (kl_at_14 rfl) rfl rfl ?_
    refine fs_lald (pc2 := 1041) (kl_at_14 rfl) rfl rfl ho9 (vp_in_nI (n := 0) (by decide) (by decide)) ?_
    refine fs_iload (pc2 := 1043) (kl_at_14 rfl) rfl rfl rfl ?_
    refine fs_i2l (pc2 := 1044) (kl_at_14 rfl) rfl rfl ?_
    refine fs_lcmp (pc2 := 1045) (kl_at_14 rfl) rfl rfl ?_
    rw [hv9 hk0]
    refine fs_if_eq (pc2 := 1048) (kl_at_14 rfl) rfl rfl (fun h1045 => ?_) (fun h1045 => absurd (lg_cmp_self _) h1045)
    refine fs_goto (kl_at_14 rfl) rfl ?_
    first | exact hN [(5, .int _)] _ _ _ _ _ (Or.inr (Or.inl ⟨_, rfl⟩)) hF (by omega) (by omega) | exact hN [(5, .int _), (6, .int _)] _ _ _ _ _ (Or.inr (Or.inr ⟨_, _, rfl⟩)) hF (by omega) (by omega) | exact hN [] _ _ _ _ _ (Or.inl rfl) hF (by omega) (by omega)
set_option maxRecDepth 100000 in
set_option maxHeartbeats 4000000 in
theorem lc_count_1 {u5 : Int32} (hext : ev_HX l D cy zF ext) (hst : l.stackTraces = false) (hA : AlOK cy z0 a0 ext) (e1 : mb = c + 374) (e2 : oo = c + 420) (e3 : K = c + 421) (hI : LI K a0 c mb oo sh V n j) (hj : j < 512) (hx : 6 * j + 6 ≤ Lx) (hLx : Lx ≤ 3072) (hc : cc + 4 ≤ 601024) (hsl : sl + 740 ≤ 7293034) (hN : ∀ T' sh' V' n' c' sl', TS T' → LI K a0 c mb oo sh' V' n' (j + 1) → c' ≤ cc + 4 → sl' ≤ sl + 740 → lQ l D cy zF z0 ext b Lx xs Ret 1053 ([(0, .ref b), (1, .ref (z0 + c)), (2, .ref (z0 + mb)), (3, .ref (z0 + oo)), (4, .int (nI (6 * j)))] ++ T') [] sh' V' n' c' sl') : lQ l D cy zF z0 ext b Lx xs Ret 985 ([(0, .ref b), (1, .ref (z0 + c)), (2, .ref (z0 + mb)), (3, .ref (z0 + oo)), (4, .int (nI (6 * j))), (5, .int u5)]) [] sh V n cc sl := by
  obtain ⟨E, R, S, HH, g, hL, hm, hM, ho, hJ⟩ := hI
  obtain ⟨m1, m2⟩ := id hm
  have hcl := hL.1
  unfold isCL at hcl
  have hKn := hL.Kn
  have hq1 : vp_in (nI (6 * j) + 1) Lx := by rw [show (nI (6 * j) + 1 : Int32) = nI (6 * j + 1) from by rw [show (1 : Int32) = nI 1 from rfl, nI_add]]; exact vp_in_nI (by omega) (by omega)
  have hq2 : vp_in (nI (6 * j) + 2) Lx := by rw [show (nI (6 * j) + 2 : Int32) = nI (6 * j + 2) from by rw [show (2 : Int32) = nI 2 from rfl, nI_add]]; exact vp_in_nI (by omega) (by omega)
  obtain ⟨k, x, S', HH', hkm, hJ', hsame, hC, hMP⟩ := tie_count (K := K) (c := c) (mb := mb) (S := S) hext hst hJ hj (u := (xs (nI (6 * j) + 1).toNatClampNeg)) (w := (xs (nI (6 * j) + 2).toNatClampNeg))
  refine fs_aload_n (pc2 := 986) (kl_at_14 rfl) rfl rfl rfl ?_
  refine fs_aload_n (pc2 := 987) (kl_at_14 rfl) rfl rfl rfl ?_
  refine fs_iload (pc2 := 989) (kl_at_14 rfl) rfl rfl rfl ?_
  refine fs_iconst (pc2 := 990) (kl_at_14 rfl) rfl rfl ?_
  refine fs_iadd (pc2 := 991) (kl_at_14 rfl) rfl rfl ?_
  refine lw_scr (pc2 := 992) (kl_at_14 rfl) rfl hq1 ?_
  refine fs_aload_n (pc2 := 993) (kl_at_14 rfl) rfl rfl rfl ?_
  refine fs_iload (pc2 := 995) (kl_at_14 rfl) rfl rfl rfl ?_
  refine fs_iconst (pc2 := 996) (kl_at_14 rfl) rfl rfl ?_
  refine fs_iadd (pc2 := 997) (kl_at_14 rfl) rfl rfl ?_
  refine lw_scr (pc2 := 998) (kl_at_14 rfl) rfl hq2 ?_
  refine fs_aload_n (pc2 := 999) (kl_at_14 rfl) rfl rfl rfl ?_
  refine lw_hlp (dc := 4) (ds := 740) (pc2 := 1002) (kl_at_14 rfl) rfl kw_L_count (h_count hcl hkm (fun v sh' V' n' h => ⟨h.1, by rw [h.2.2.2.2 oo (by omega) (by omega)]; exact ho⟩) (hC sh V n E R hL)) rfl rfl (Nat.le_of_ble_eq_true rfl) rfl rfl hc hsl (fun v9 sh9 V9 n9 hp9 => ?_)
  obtain ⟨ea9, hp9⟩ := hp9
  cases ea9
  obtain ⟨E9, R9, g9, hL9, hm9, hM9, ho9, hv9⟩ := lw_aft (a := mkI x) e1 e2 e3 hL hm hM ho hsame hp9
  obtain ⟨m3, m4⟩ := id hm9
  refine fs_istore (pc2 := 1004) (kl_at_14 rfl) rfl rfl (Nat.le_of_ble_eq_true rfl) ?_
  refine fs_aload_n (pc2 := 1005) (kl_at_14 rfl) rfl rfl rfl ?_
  refine fs_aload_n (pc2 := 1006) (kl_at_14 rfl) rfl rfl rfl ?_
  refine fs_iload (pc2 := 1008) (kl_at_14 rfl) rfl rfl rfl ?_
  refine fs_iconst (pc2 := 1009) (kl_at_14 rfl) rfl rfl ?_
  refine fs_iadd (pc2 := 1010) (kl_at_14 rfl) rfl rfl ?_
  refine lw_scr (pc2 := 1011) (kl_at_14 rfl) rfl hq1 ?_
  refine fs_aload_n (pc2 := 1012) (kl_at_14 rfl) rfl rfl rfl ?_
  refine fs_iload (pc2 := 1014) (kl_at_14 rfl) rfl rfl rfl ?_
  refine fs_iconst (pc2 := 1015) (kl_at_14 rfl) rfl rfl ?_
  refine fs_iadd (pc2 := 1016) (kl_at_14 rfl) rfl rfl ?_
  refine lw_scr (pc2 := 1017) (kl_at_14 rfl) rfl hq2 ?_
  refine lw_callv (dc := 0) (ds := 0) (pc2 := 1020) (kl_at_14 rfl) rfl rfl rfl ⟨rfl, rfl⟩ (Nat.le_of_ble_eq_true rfl) rfl rfl (by omega) (by omega) (fs_rcv rfl m3) (hMP _ _ _ hm9 hM9) (fun v8 sh8 V8 n8 hp8 => ?_)
  obtain ⟨ea8, eb8, ec8, hM8, hth, hO8⟩ := hp8
  rw [mk_if] at ea8
  cases ea8
  obtain rfl := eb8.symm
  obtain rfl := ec8.symm
  have hF := lw_fin e1 e2 e3 hL9 hm9 hM8 hO8 ho9 hJ'
  refine fs_istore (pc2 := 1022) (kl_at_14 rfl) rfl rfl (Nat.le_of_ble_eq_true rfl) ?_
  refine fs_aload_n (pc2 := 1023) (kl_at_14 rfl) rfl rfl rfl ?_
  refine lw_callv (dc := 0) (ds := 0) (pc2 := 1026) (kl_at_14 rfl) rfl rfl rfl ⟨rfl, rfl⟩ (Nat.le_of_ble_eq_true rfl) rfl rfl (by omega) (by omega) (fs_rcv rfl m3) (m_thrown hm9) (fun v9 sh9 V9 n9 hp9 => ?_)
  obtain ⟨ea9, eb9, ec9, ed9⟩ := hp9
  cases ea9
  obtain rfl := eb9.symm
  obtain rfl := ec9.symm
  obtain rfl := ed9.symm
  rw [hth]
  refine fs_iload (pc2 := 1028) (kl_at_14 rfl) rfl rfl rfl ?_
  refine fs_icmp_eq (pc2 := 1031) (kl_at_14 rfl) rfl rfl (fun h1028 => ?_) (fun h1028 => absurd rfl h1028)
  refine fs_iload (pc2 := 1035) (kl_at_14 rfl) rfl rfl rfl ?_
  refine fs_if_ne (pc2 := 1038) (kl_at_14 rfl) rfl rfl (fun h1035 => ?_) (fun h1035 => ?_)
  · refine fs_goto (kl_at_14 rfl) rfl ?_
    first | exact hN [(5, .int _)] _ _ _ _ _ (Or.inr (Or.inl ⟨_, rfl⟩)) hF (by omega) (by omega) | exact hN [(5, .int _), (6, .int _)] _ _ _ _ _ (Or.inr (Or.inr ⟨_, _, rfl⟩)) hF (by omega) (by omega) | exact hN [] _ _ _ _ _ (Or.inl rfl) hF (by omega) (by omega)
  · have hk0 : k = 0 := c_eq (a := k) (b := 0) h1035 rfl rfl (by omega) (by omega)
    rw [if_pos hk0]
    refine fs_aload_n (pc2 := 1039) (kl_at_14 rfl) rfl rfl rfl ?_
    refine fs_iconst (pc2 := 1040) (kl_at_14 rfl) rfl rfl ?_
    refine fs_lald (pc2 := 1041) (kl_at_14 rfl) rfl rfl ho9 (vp_in_nI (n := 0) (by decide) (by decide)) ?_
    refine fs_iload (pc2 := 1043) (kl_at_14 rfl) rfl rfl rfl ?_
    refine fs_i2l (pc2 := 1044) (kl_at_14 rfl) rfl rfl ?_
    refine fs_lcmp (pc2 := 1045) (kl_at_14 rfl) rfl rfl ?_
    rw [hv9 hk0]
    refine fs_if_eq (pc2 := 1048) (kl_at_14 rfl) rfl rfl (fun h1045 => ?_) (fun h1045 => absurd (lg_cmp_self _) h1045)
    refine fs_goto (kl_at_14 rfl) rfl ?_
    first | exact hN [(5, .int _)] _ _ _ _ _ (Or.inr (Or.inl ⟨_, rfl⟩)) hF (by omega) (by omega) | exact hN [(5, .int _), (6, .int _)] _ _ _ _ _ (Or.inr (Or.inr ⟨_, _, rfl⟩)) hF (by omega) (by omega) | exact hN [] _ _ _ _ _ (Or.inl rfl) hF (by omega) (by omega)
set_option maxRecDepth 100000 in
set_option maxHeartbeats 4000000 in
theorem lc_count_2 {u5 u6 : Int32} (hext : ev_HX l D cy zF ext) (hst : l.stackTraces = false) (hA : AlOK cy z0 a0 ext) (e1 : mb = c + 374) (e2 : oo = c + 420) (e3 : K = c + 421) (hI : LI K a0 c mb oo sh V n j) (hj : j < 512) (hx : 6 * j + 6 ≤ Lx) (hLx : Lx ≤ 3072) (hc : cc + 4 ≤ 601024) (hsl : sl + 740 ≤ 7293034) (hN : ∀ T' sh' V' n' c' sl', TS T' → LI K a0 c mb oo sh' V' n' (j + 1) → c' ≤ cc + 4 → sl' ≤ sl + 740 → lQ l D cy zF z0 ext b Lx xs Ret 1053 ([(0, .ref b), (1, .ref (z0 + c)), (2, .ref (z0 + mb)), (3, .ref (z0 + oo)), (4, .int (nI (6 * j)))] ++ T') [] sh' V' n' c' sl') : lQ l D cy zF z0 ext b Lx xs Ret 985 ([(0, .ref b), (1, .ref (z0 + c)), (2, .ref (z0 + mb)), (3, .ref (z0 + oo)), (4, .int (nI (6 * j))), (5, .int u5), (6, .int u6)]) [] sh V n cc sl := by
  obtain ⟨E, R, S, HH, g, hL, hm, hM, ho, hJ⟩ := hI
  obtain ⟨m1, m2⟩ := id hm
  have hcl := hL.1
  unfold isCL at hcl
  have hKn := hL.Kn
  have hq1 : vp_in (nI (6 * j) + 1) Lx := by rw [show (nI (6 * j) + 1 : Int32) = nI (6 * j + 1) from by rw [show (1 : Int32) = nI 1 from rfl, nI_add]]; exact vp_in_nI (by omega) (by omega)
  have hq2 : vp_in (nI (6 * j) + 2) Lx := by rw [show (nI (6 * j) + 2 : Int32) = nI (6 * j + 2) from by rw [show (2 : Int32) = nI 2 from rfl, nI_add]]; exact vp_in_nI (by omega) (by omega)
  obtain ⟨k, x, S', HH', hkm, hJ', hsame, hC, hMP⟩ := tie_count (K := K) (c := c) (mb := mb) (S := S) hext hst hJ hj (u := (xs (nI (6 * j) + 1).toNatClampNeg)) (w := (xs (nI (6 * j) + 2).toNatClampNeg))
  refine fs_aload_n (pc2 := 986) (kl_at_14 rfl) rfl rfl rfl ?_
  refine fs_aload_n (pc2 := 987) (kl_at_14 rfl) rfl rfl rfl ?_
  refine fs_iload (pc2 := 989) (kl_at_14 rfl) rfl rfl rfl ?_
  refine fs_iconst (pc2 := 990) (kl_at_14 rfl) rfl rfl ?_
  refine fs_iadd (pc2 := 991) (kl_at_14 rfl) rfl rfl ?_
  refine lw_scr (pc2 := 992) (kl_at_14 rfl) rfl hq1 ?_
  refine fs_aload_n (pc2 := 993) (kl_at_14 rfl) rfl rfl rfl ?_
  refine fs_iload (pc2 := 995) (kl_at_14 rfl) rfl rfl rfl ?_
  refine fs_iconst (pc2 := 996) (kl_at_14 rfl) rfl rfl ?_
  refine fs_iadd (pc2 := 997) (kl_at_14 rfl) rfl rfl ?_
  refine lw_scr (pc2 := 998) (kl_at_14 rfl) rfl hq2 ?_
  refine fs_aload_n (pc2 := 999) (kl_at_14 rfl) rfl rfl rfl ?_
  refine lw_hlp (dc := 4) (ds := 740) (pc2 := 1002) (kl_at_14 rfl) rfl kw_L_count (h_count hcl hkm (fun v sh' V' n' h => ⟨h.1, by rw [h.2.2.2.2 oo (by omega) (by omega)]; exact ho⟩) (hC sh V n E R hL)) rfl rfl (Nat.le_of_ble_eq_true rfl) rfl rfl hc hsl (fun v9 sh9 V9 n9 hp9 => ?_)
  obtain ⟨ea9, hp9⟩ := hp9
  cases ea9
  obtain ⟨E9, R9, g9, hL9, hm9, hM9, ho9, hv9⟩ := lw_aft (a := mkI x) e1 e2 e3 hL hm hM ho hsame hp9
  obtain ⟨m3, m4⟩ := id hm9
  refine fs_istore (pc2 := 1004) (kl_at_14 rfl) rfl rfl (Nat.le_of_ble_eq_true rfl) ?_
  refine fs_aload_n (pc2 := 1005) (kl_at_14 rfl) rfl rfl rfl ?_
  refine fs_aload_n (pc2 := 1006) (kl_at_14 rfl) rfl rfl rfl ?_
  refine fs_iload (pc2 := 1008) (kl_at_14 rfl) rfl rfl rfl ?_
  refine fs_iconst (pc2 := 1009) (kl_at_14 rfl) rfl rfl ?_
  refine fs_iadd (pc2 := 1010) (kl_at_14 rfl) rfl rfl ?_
  refine lw_scr (pc2 := 1011) (kl_at_14 rfl) rfl hq1 ?_
  refine fs_aload_n (pc2 := 1012) (kl_at_14 rfl) rfl rfl rfl ?_
  refine fs_iload (pc2 := 1014) (kl_at_14 rfl) rfl rfl rfl ?_
  refine fs_iconst (pc2 := 1015) (kl_at_14 rfl) rfl rfl ?_
  refine fs_iadd (pc2 := 1016) (kl_at_14 rfl) rfl rfl ?_
  refine lw_scr (pc2 := 1017) (kl_at_14 rfl) rfl hq2 ?_
  refine lw_callv (dc := 0) (ds := 0) (pc2 := 1020) (kl_at_14 rfl) rfl rfl rfl ⟨rfl, rfl⟩ (Nat.le_of_ble_eq_true rfl) rfl rfl (by omega) (by omega) (fs_rcv rfl m3) (hMP _ _ _ hm9 hM9) (fun v8 sh8 V8 n8 hp8 => ?_)
  obtain ⟨ea8, eb8, ec8, hM8, hth, hO8⟩ := hp8
  rw [mk_if] at ea8
  cases ea8
  obtain rfl := eb8.symm
  obtain rfl := ec8.symm
  have hF := lw_fin e1 e2 e3 hL9 hm9 hM8 hO8 ho9 hJ'
  refine fs_istore (pc2 := 1022) (kl_at_14 rfl) rfl rfl (Nat.le_of_ble_eq_true rfl) ?_
  refine fs_aload_n (pc2 := 1023) (kl_at_14 rfl) rfl rfl rfl ?_
  refine lw_callv (dc := 0) (ds := 0) (pc2 := 1026) (kl_at_14 rfl) rfl rfl rfl ⟨rfl, rfl⟩ (Nat.le_of_ble_eq_true rfl) rfl rfl (by omega) (by omega) (fs_rcv rfl m3) (m_thrown hm9) (fun v9 sh9 V9 n9 hp9 => ?_)
  obtain ⟨ea9, eb9, ec9, ed9⟩ := hp9
  cases ea9
  obtain rfl := eb9.symm
  obtain rfl := ec9.symm
  obtain rfl := ed9.symm
  rw [hth]
  refine fs_iload (pc2 := 1028) (kl_at_14 rfl) rfl rfl rfl ?_
  refine fs_icmp_eq (pc2 := 1031) (kl_at_14 rfl) rfl rfl (fun h1028 => ?_) (fun h1028 => absurd rfl h1028)
  refine fs_iload (pc2 := 1035) (kl_at_14 rfl) rfl rfl rfl ?_
  refine fs_if_ne (pc2 := 1038) (kl_at_14 rfl) rfl rfl (fun h1035 => ?_) (fun h1035 => ?_)
  · refine fs_goto (kl_at_14 rfl) rfl ?_
    first | exact hN [(5, .int _)] _ _ _ _ _ (Or.inr (Or.inl ⟨_, rfl⟩)) hF (by omega) (by omega) | exact hN [(5, .int _), (6, .int _)] _ _ _ _ _ (Or.inr (Or.inr ⟨_, _, rfl⟩)) hF (by omega) (by omega) | exact hN [] _ _ _ _ _ (Or.inl rfl) hF (by omega) (by omega)
  · have hk0 : k = 0 := c_eq (a := k) (b := 0) h1035 rfl rfl (by omega) (by omega)
    rw [if_pos hk0]
    refine fs_aload_n (pc2 := 1039) (kl_at_14 rfl) rfl rfl rfl ?_
    refine fs_iconst (pc2 := 1040) (kl_at_14 rfl) rfl rfl ?_
    refine fs_lald (pc2 := 1041) (kl_at_14 rfl) rfl rfl ho9 (vp_in_nI (n := 0) (by decide) (by decide)) ?_
    refine fs_iload (pc2 := 1043) (kl_at_14 rfl) rfl rfl rfl ?_
    refine fs_i2l (pc2 := 1044) (kl_at_14 rfl) rfl rfl ?_
    refine fs_lcmp (pc2 := 1045) (kl_at_14 rfl) rfl rfl ?_
    rw [hv9 hk0]
    refine fs_if_eq (pc2 := 1048) (kl_at_14 rfl) rfl rfl (fun h1045 => ?_) (fun h1045 => absurd (lg_cmp_self _) h1045)
    refine fs_goto (kl_at_14 rfl) rfl ?_
    first | exact hN [(5, .int _)] _ _ _ _ _ (Or.inr (Or.inl ⟨_, rfl⟩)) hF (by omega) (by omega) | exact hN [(5, .int _), (6, .int _)] _ _ _ _ _ (Or.inr (Or.inr ⟨_, _, rfl⟩)) hF (by omega) (by omega) | exact hN [] _ _ _ _ _ (Or.inl rfl) hF (by omega) (by omega)
end CASE
