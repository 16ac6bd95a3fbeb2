/-! NUMBERS AND BYTES -/
def sb (b : Nat) : Int32 := (nI b).toInt8.toInt32
/-- the low byte of an int -/
def bt8 (v : Int32) : Nat := v.toBitVec.toNat % 256
theorem bt8_lt (v : Int32) : bt8 v < 256 := Nat.mod_lt _ (by decide)
theorem bt8_nI {k : Nat} (h : k < 2 ^ 32) : bt8 (nI k) = k % 256 := by unfold bt8; rw [pk_tn h]
theorem sb_bt8 (v : Int32) : v.toInt8.toInt32 = sb (bt8 v) := by
  unfold sb
  congr 1
  apply Int8.toBitVec_inj.mp
  apply BitVec.eq_of_toNat_eq
  have h1 : (nI (bt8 v)).toBitVec.toNat = bt8 v := pk_tn (Nat.lt_trans (bt8_lt v) (by decide))
  simp only [Int32.toBitVec_toInt8]
  rw [BitVec.signExtend_eq_setWidth_of_le _ (by decide), BitVec.signExtend_eq_setWidth_of_le _ (by decide), BitVec.toNat_setWidth, BitVec.toNat_setWidth, h1]
  unfold bt8
  omega
theorem sb_nar (v : Int32) : vp_nar .byte v.toInt8.toInt32 = sb (bt8 v) := by rw [pk_vb, sb_bt8]
theorem sb_fit (b : Nat) : (sb b).toInt8.toInt32 = sb b := by unfold sb; simp
theorem sb_nar2 (b : Nat) : vp_nar .byte (sb b) = sb b := by rw [vp_nar_byte, sb_fit]
theorem sb_255 {b : Nat} (h : b < 256) : sb b &&& 255 = nI b := sc_k8 b h
theorem nI_or (a b : Nat) : nI a ||| nI b = nI (a ||| b) := by
  apply Int32.toBitVec_inj.mp
  apply BitVec.eq_of_toNat_eq
  show (BitVec.ofNat 32 a ||| BitVec.ofNat 32 b).toNat = (BitVec.ofNat 32 (a ||| b)).toNat
  rw [BitVec.toNat_or, BitVec.toNat_ofNat, BitVec.toNat_ofNat, BitVec.toNat_ofNat]
  apply Nat.eq_of_testBit_eq
  intro i
  simp only [Nat.testBit_or, Nat.testBit_mod_two_pow]
  cases decide (i < 32) <;> simp
theorem nI_shl8 {y : Nat} (h : y < 65536) : nI y <<< ((8 : Int32) &&& 31) = nI (256 * y) := by
  have := pk_shlN (n := y) ((8 : Int32) &&& 31) 8 (by decide) (by omega)
  rw [this, Nat.mul_comm]
theorem nI_two {u y : Nat} (hu : u < 256) (hy : y < 65536) : nI u ||| (nI y <<< ((8 : Int32) &&& 31)) = nI (u + 256 * y) := by
  rw [nI_shl8 hy, nI_or]
  congr 1
  have h := Nat.shiftLeft_add_eq_or_of_lt (i := 8) (b := u) (by omega) y
  rw [Nat.shiftLeft_eq] at h
  rw [Nat.or_comm, show 256 * y = y * 2 ^ 8 by omega, ← h]
  omega
theorem nI_shr8 {k : Nat} (h : k < 2 ^ 31) : nI k >>> ((8 : Int32) &&& 31) = nI (k / 256) := pk_shrN h ((8 : Int32) &&& 31) 8 (by decide)
theorem ofNat_nI (k : Nat) : Int32.ofNat k = nI k := rfl
theorem nI_lit (k : Nat) : (OfNat.ofNat k : Int32) = nI k := rfl
theorem nI_nlt_m1 (j : Nat) (h : j < 2 ^ 31) : ¬ nI j < nI 0 - 1 := by
  rw [show nI 0 - 1 = -1 by decide]
  intro q
  have := Int32.lt_iff_toInt_lt.mp q
  rw [nI_toInt h] at this
  have e : (-1 : Int32).toInt = -1 := by decide
  omega
