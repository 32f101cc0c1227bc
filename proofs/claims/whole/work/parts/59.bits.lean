/-! BITS of small numbers -/
theorem nN_bv {s : Nat} : (nN s).toBitVec = BitVec.ofNat 32 s := by
  unfold nN iN
  rw [Int32.toBitVec_ofInt]
  exact BitVec.ofInt_natCast ..
theorem nN_and {a b : Nat} : nN a &&& nN b = nN (a &&& b) := by
  apply Int32.toBitVec_inj.mp
  rw [Int32.toBitVec_and, nN_bv, nN_bv, nN_bv]
  exact (BitVec.ofNat_and ..).symm
theorem nN_or {a b : Nat} : nN a ||| nN b = nN (a ||| b) := by
  apply Int32.toBitVec_inj.mp
  rw [Int32.toBitVec_or, nN_bv, nN_bv, nN_bv]
  exact (BitVec.ofNat_or ..).symm
theorem nN_31 {h : Nat} (hh : h < 32) : nN h &&& 31 = nN h := by
  rw [show (31 : Int32) = nN 31 from by decide +kernel, nN_and]
  congr 1
  have := Nat.and_two_pow_sub_one_eq_mod h 5
  simp at this
  omega
theorem smod_32 : ∀ h : Fin 32, (BitVec.ofNat 32 h.val).smod 32 = BitVec.ofNat 32 h.val := by decide +kernel
theorem bv_shr {s h : Nat} (hs : s < 4294967296) : BitVec.ofNat 32 s >>> h = BitVec.ofNat 32 (s >>> h) := by
  apply BitVec.eq_of_toNat_eq
  rw [BitVec.toNat_ushiftRight, BitVec.toNat_ofNat, BitVec.toNat_ofNat, Nat.mod_eq_of_lt hs, Nat.mod_eq_of_lt]
  rw [Nat.shiftRight_eq_div_pow]
  exact Nat.lt_of_le_of_lt (Nat.div_le_self _ _) hs
theorem nN_shr {s h : Nat} (hs : s < 2147483648) (hh : h < 32) : nN s >>> (nN h &&& 31) = nN (s >>> h) := by
  rw [nN_31 hh]
  apply Int32.toBitVec_inj.mp
  rw [Int32.toBitVec_shiftRight, nN_bv, nN_bv, nN_bv, smod_32 ⟨h, hh⟩]
  show (BitVec.ofNat 32 s).sshiftRight (BitVec.ofNat 32 h).toNat = _
  rw [BitVec.toNat_ofNat, Nat.mod_eq_of_lt (by omega), BitVec.sshiftRight_eq_of_msb_false, bv_shr (by omega)]
  rw [BitVec.msb_eq_false_iff_two_mul_lt, BitVec.toNat_ofNat, Nat.mod_eq_of_lt (by omega)]
  omega
theorem nN_shl {s h : Nat} (hh : h < 32) : nN s <<< (nN h &&& 31) = nN (s <<< h) := by
  rw [nN_31 hh]
  apply Int32.toBitVec_inj.mp
  rw [Int32.toBitVec_shiftLeft, nN_bv, nN_bv, nN_bv, smod_32 ⟨h, hh⟩]
  show BitVec.ofNat 32 s <<< (BitVec.ofNat 32 h).toNat = _
  apply BitVec.eq_of_toNat_eq
  rw [BitVec.toNat_ofNat, Nat.mod_eq_of_lt (by omega), BitVec.toNat_shiftLeft, BitVec.toNat_ofNat, BitVec.toNat_ofNat, Nat.shiftLeft_eq, Nat.shiftLeft_eq, Nat.mod_mul_mod]
theorem nN_ushr {s h : Nat} (hs : s < 2147483648) (hh : h < 32) : ((nN s).toUInt32 >>> ((nN h).toUInt32 &&& Int32.toUInt32 31)).toInt32 = nN (s >>> h) := by
  apply Int32.toBitVec_inj.mp
  simp [nN_bv]
  rw [show h % 4294967296 &&& 31 = h from by
    rw [Nat.mod_eq_of_lt (by omega)]
    have := Nat.and_two_pow_sub_one_eq_mod h 5
    simp at this
    omega, Nat.mod_eq_of_lt hh]
  exact bv_shr (by omega)
theorem nN_subN {a b : Nat} (h : b ≤ a) : nN a - nN b = nN (a - b) := by
  show iN _ - iN _ = _
  rw [iN_sub]
  unfold nN
  congr 1
  omega
theorem nN_inj {a b : Nat} (ha : a < 2147483648) (hb : b < 2147483648) (h : nN a = nN b) : a = b := by rwa [nN_eq ha hb] at h
/-- the bit of a small set -/
theorem bit_nN {s h : Nat} (hs : s < 2147483648) (hh : h < 32) : ((nN s >>> (nN h &&& 31)) &&& nN 1 = nN 1) = (s.testBit h = true) := by
  rw [nN_shr hs hh, nN_and]
  have h1 : s >>> h < 2147483648 := by
    rw [Nat.shiftRight_eq_div_pow]
    exact Nat.lt_of_le_of_lt (Nat.div_le_self _ _) hs
  have h2 : (s >>> h &&& 1) = (s >>> h) % 2 := Nat.and_one_is_mod _
  rw [h2, nN_eq (by omega) (by omega)]
  rw [Nat.testBit_eq_decide_div_mod_eq, Nat.shiftRight_eq_div_pow]
  simp
