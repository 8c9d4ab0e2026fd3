theorem zint_lt {a b : Int32} : a < b ↔ a.toInt < b.toInt := Int32.lt_iff_toInt_lt
theorem zint_le {a b : Int32} : a ≤ b ↔ a.toInt ≤ b.toInt := Int32.le_iff_toInt_le
theorem nI_div {a b : Nat} (ha : a < 2 ^ 31) (hb : b < 2 ^ 31) : nI a / nI b = nI (a / b) := (Int32.ofNat_div ha hb).symm
theorem nI_rem {a b : Nat} (ha : a < 2 ^ 31) (hb : b < 2 ^ 31) : nI a - nI a / nI b * nI b = nI (a % b) := by
  rw [nI_div ha hb, nI_mul]
  have h := Nat.div_add_mod a b
  rw [nI_subE (Nat.div_mul_le_self a b) rfl rfl]
  congr 1
  have := Nat.mul_comm b (a / b)
  omega
theorem lN_bv (a : Nat) : (lN a).toBitVec = BitVec.ofNat 64 a := rfl
theorem nI_bv (a : Nat) : (nI a).toBitVec = BitVec.ofNat 32 a := rfl
theorem lN_or (a b : Nat) : lN a ||| lN b = lN (a ||| b) := by
  apply Int64.toBitVec_inj.mp
  rw [Int64.toBitVec_or, lN_bv, lN_bv, lN_bv, BitVec.ofNat_or]
theorem lN_and (a b : Nat) : lN a &&& lN b = lN (a &&& b) := by
  apply Int64.toBitVec_inj.mp
  rw [Int64.toBitVec_and, lN_bv, lN_bv, lN_bv, BitVec.ofNat_and]
theorem lN_andnot (a b : Nat) : lN a &&& (lN b ^^^ -1) = lN (a ^^^ (a &&& b)) := by
  apply Int64.toBitVec_inj.mp
  rw [Int64.toBitVec_and, Int64.toBitVec_xor, lN_bv, lN_bv, lN_bv]
  apply BitVec.eq_of_getLsbD_eq
  intro i hi
  have h1 : (-1 : Int64).toBitVec = BitVec.allOnes 64 := by decide
  rw [h1]
  simp only [BitVec.getLsbD_and, BitVec.getLsbD_xor, BitVec.getLsbD_allOnes, BitVec.getLsbD_ofNat, Nat.testBit_xor, Nat.testBit_and, hi, decide_true, Bool.true_and]
  cases a.testBit i <;> cases b.testBit i <;> rfl
theorem nI_and (a b : Nat) : nI a &&& nI b = nI (a &&& b) := by
  apply Int32.toBitVec_inj.mp
  rw [Int32.toBitVec_and, nI_bv, nI_bv, nI_bv, BitVec.ofNat_and]
theorem zbv_shl {n a k : Nat} (hk : k < 2 ^ n) : BitVec.ofNat n a <<< BitVec.ofNat n k = BitVec.ofNat n (a <<< k) := by
  apply BitVec.eq_of_toNat_eq
  rw [BitVec.shiftLeft_ofNat_eq, Nat.mod_eq_of_lt hk, BitVec.toNat_shiftLeft, BitVec.toNat_ofNat, BitVec.toNat_ofNat, Nat.shiftLeft_eq, Nat.shiftLeft_eq, Nat.mod_mul_mod]
theorem zbv_ushr {n a k : Nat} (ha : a < 2 ^ n) (hk : k < 2 ^ n) : BitVec.ofNat n a >>> BitVec.ofNat n k = BitVec.ofNat n (a >>> k) := by
  apply BitVec.eq_of_toNat_eq
  have h1 : a >>> k ≤ a := by rw [Nat.shiftRight_eq_div_pow]; exact Nat.div_le_self _ _
  rw [BitVec.ushiftRight_ofNat_eq, Nat.mod_eq_of_lt hk, BitVec.toNat_ushiftRight, BitVec.toNat_ofNat, BitVec.toNat_ofNat, Nat.mod_eq_of_lt ha, Nat.mod_eq_of_lt (by omega)]
theorem nI_shl {k : Nat} (a : Nat) (hk : k < 32) : nI a <<< (nI k &&& 31) = nI (a <<< k) := by
  apply Int32.toBitVec_inj.mp
  show (nI a).toBitVec <<< ((nI k &&& 31).toBitVec.smod 32) = _
  rw [(by decide +kernel : ∀ k, k < 32 → (nI k &&& 31).toBitVec.smod 32 = BitVec.ofNat 32 k) k hk, nI_bv, nI_bv, zbv_shl (by omega)]
theorem lN_shl {k : Nat} (a : Nat) (hk : k < 64) : lN a <<< ((nI k).toInt64 &&& 63) = lN (a <<< k) := by
  apply Int64.toBitVec_inj.mp
  show (lN a).toBitVec <<< (((nI k).toInt64 &&& 63).toBitVec.smod 64) = _
  rw [(by decide +kernel : ∀ k, k < 64 → ((nI k).toInt64 &&& 63).toBitVec.smod 64 = BitVec.ofNat 64 k) k hk, lN_bv, lN_bv, zbv_shl (by omega)]
theorem lN_ushr {k a : Nat} (ha : a < 2 ^ 64) (hk : k < 64) : ((lN a).toUInt64 >>> ((nI k).toInt64.toUInt64 &&& Int64.toUInt64 63)).toInt64 = lN (a >>> k) := by
  apply Int64.toBitVec_inj.mp
  show (lN a).toBitVec >>> (((nI k).toInt64.toUInt64 &&& Int64.toUInt64 63).toBitVec % 64) = _
  rw [(by decide +kernel : ∀ k, k < 64 → ((nI k).toInt64.toUInt64 &&& Int64.toUInt64 63).toBitVec % 64 = BitVec.ofNat 64 k) k hk, lN_bv, lN_bv, zbv_ushr ha (by omega)]
theorem nI_shr {k a : Nat} (ha : a < 2 ^ 31) (hk : k < 32) : nI a >>> (nI k &&& 31) = nI (a >>> k) := by
  apply Int32.toInt_inj.mp
  have h1 : a >>> k ≤ a := by rw [Nat.shiftRight_eq_div_pow]; exact Nat.div_le_self _ _
  have e : (nI a >>> (nI k &&& 31)).toBitVec = (nI a).toBitVec.sshiftRight' ((nI k &&& 31).toBitVec.smod 32) := rfl
  have e2 := (by decide +kernel : ∀ k, k < 32 → (nI k &&& 31).toBitVec.smod 32 = BitVec.ofNat 32 k) k hk
  show (nI a >>> (nI k &&& 31)).toBitVec.toInt = _
  rw [e, e2]
  show ((nI a).toBitVec.sshiftRight (BitVec.ofNat 32 k).toNat).toInt = _
  rw [BitVec.toInt_sshiftRight, BitVec.toNat_ofNat, Nat.mod_eq_of_lt (by omega)]
  show (nI a).toInt >>> k = _
  rw [nI_toInt ha, nI_toInt (by omega)]
  rfl
theorem lN_inj {a b : Nat} (ha : a < 2 ^ 64) (hb : b < 2 ^ 64) : lN a = lN b ↔ a = b := by
  constructor
  · intro h
    have h1 := congrArg Int64.toBitVec h
    rw [lN_bv, lN_bv] at h1
    have h2 := congrArg BitVec.toNat h1
    simp only [BitVec.toNat_ofNat] at h2
    rw [Nat.mod_eq_of_lt ha, Nat.mod_eq_of_lt hb] at h2
    exact h2
  · intro h
    rw [h]
theorem nI_ltD {a y : Nat} (h : ¬ nI a ≤ nI y) (ha : a < 2 ^ 31 := by omega) (hy : y < 2 ^ 31 := by omega) : y < a := by
  rw [nI_leI ha hy] at h
  omega
theorem nI_leD {a y : Nat} (h : nI a ≤ nI y) (ha : a < 2 ^ 31 := by omega) (hy : y < 2 ^ 31 := by omega) : a ≤ y := (nI_leI ha hy).mp h
theorem nI_sub {a b : Nat} (h : b ≤ a) : nI a - nI b = nI (a - b) := nI_subE h rfl rfl
theorem zb10 {n : Nat} (h : n < 10) : (0 : Int32) ≤ nI n ∧ nI n < 10 := ⟨nI_pos' (by omega), nI_lt (b := 10) (by omega) (by omega)⟩

