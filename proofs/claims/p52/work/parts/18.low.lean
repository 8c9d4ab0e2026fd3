def zlow (a k : Nat) : Prop := a.testBit k = true ∧ ∀ j, j < k → a.testBit j = false
theorem zlow_eq {a k : Nat} (h : zlow a k) : a = 2 ^ (k + 1) * (a / 2 ^ (k + 1)) + 2 ^ k := by
  have e : a % 2 ^ (k + 1) = 2 ^ k := by
    apply Nat.eq_of_testBit_eq
    intro i
    rw [Nat.testBit_mod_two_pow, Nat.testBit_two_pow]
    rcases Nat.lt_trichotomy i k with q | q | q
    · rw [h.2 i q]
      have : ¬ k = i := by omega
      simp [this]
    · subst q
      rw [h.1]
      simp
    · have h1 : ¬ i < k + 1 := by omega
      have h2 : ¬ k = i := by omega
      simp [h1, h2]
  have := Nat.div_add_mod a (2 ^ (k + 1))
  omega
theorem zlow_pos {a k : Nat} (h : zlow a k) : 1 ≤ a := by
  have := zlow_eq h
  have := Nat.two_pow_pos k
  omega
theorem zlow_pred {a k : Nat} (h : zlow a k) (i : Nat) : (a - 1).testBit i = if i < k then true else if i = k then false else a.testBit i := by
  have e := zlow_eq h
  generalize a / 2 ^ (k + 1) = q at e
  have hp := Nat.two_pow_pos k
  have h2 : 2 ^ (k + 1) = 2 ^ k + 2 ^ k := by rw [Nat.pow_succ]; omega
  have e1 : a - 1 = 2 ^ (k + 1) * q + (2 ^ k - 1) := by omega
  rw [e1, Nat.testBit_two_pow_mul_add _ (by omega), Nat.testBit_two_pow_sub_one]
  rcases Nat.lt_trichotomy i k with c | c | c
  · rw [if_pos (by omega), if_pos c]
    simp [c]
  · subst c
    rw [if_pos (by omega), if_neg (by omega), if_pos rfl]
    simp
  · rw [if_neg (by omega), if_neg (by omega), if_neg (by omega), e, Nat.testBit_two_pow_mul_add _ (by omega), if_neg (by omega)]
theorem zlow_clear {a k : Nat} (h : zlow a k) (i : Nat) : (a &&& (a - 1)).testBit i = (a.testBit i && !decide (i = k)) := by
  rw [Nat.testBit_and, zlow_pred h]
  rcases Nat.lt_trichotomy i k with c | c | c
  · rw [if_pos c, h.2 i c]; rfl
  · subst c
    simp
  · rw [if_neg (by omega), if_neg (by omega)]
    have : ¬ i = k := by omega
    simp [this]
theorem zlow_mask {a k : Nat} (h : zlow a k) (hk : k < 32) : (nI a ^^^ -1) &&& (nI a - 1) = nI (2 ^ k - 1) := by
  rw [show nI a - 1 = nI (a - 1) from nI_sub (a := a) (b := 1) (zlow_pos h)]
  apply Int32.toBitVec_inj.mp
  rw [Int32.toBitVec_and, Int32.toBitVec_xor, nI_bv, nI_bv, nI_bv]
  apply BitVec.eq_of_getLsbD_eq
  intro i hi
  rw [BitVec.getLsbD_and, BitVec.getLsbD_xor, BitVec.getLsbD_ofNat, BitVec.getLsbD_ofNat, BitVec.getLsbD_ofNat, zlow_pred h, Nat.testBit_two_pow_sub_one]
  have hm : (Int32.toBitVec (-1)).getLsbD i = true := by
    rw [show Int32.toBitVec (-1) = BitVec.allOnes 32 from rfl, BitVec.getLsbD_allOnes]
    simp [hi]
  rw [hm]
  simp only [hi, decide_true, Bool.true_and]
  rcases Nat.lt_trichotomy i k with c | c | c
  · rw [if_pos c, h.2 i c]
    simp [c]
  · subst c
    simp
  · rw [if_neg (by omega), if_neg (by omega)]
    have : ¬ i < k := by omega
    simp [this]
def zush (m k : Int32) : Int32 := (m.toUInt32 >>> (k.toUInt32 &&& Int32.toUInt32 31)).toInt32
def zt74 (m n : Int32) : Int32 := n + zush m 1
def zt62 (m n : Int32) : Int32 := if m ≤ 4 then zt74 m n else zt74 (zush m 2) (n + Int32.ofInt 2)
def zt49 (m n : Int32) : Int32 := if m ≤ 16 then zt62 m n else zt62 (zush m 4) (n + Int32.ofInt 4)
def zt34 (m n : Int32) : Int32 := if m ≤ 256 then zt49 m n else zt49 (zush m 8) (n + Int32.ofInt 8)
def zt19 (m n : Int32) : Int32 := if m ≤ 65536 then zt34 m n else zt34 (zush m 16) (n + Int32.ofInt 16)
theorem zt_ok : ∀ k, k < 32 → (k = 0 ∨ (0 < nI (2 ^ k - 1) ∧ zt19 (nI (2 ^ k - 1)) 1 = nI k)) := by decide +kernel
theorem s_J6_ntz {G : zG} {w : zW} {a k : Nat} (h : zlow a k) (hk : k < 32) : zEi G mJ6_numberOfTrailingZeros_0f7a4 [.int (nI a)] w (nI k) w := by
  have ok := zt_ok k hk
  have e := zlow_mask h hk
  refine zC_of (lo := [_, _]) kcJ6_numberOfTrailingZeros_0f7a4 (Nat.le_of_ble_eq_true rfl) rfl (fun X hX hE => ?_)
  have k74 : ∀ m n : Int32, nI k = zt74 m n → zk0 G X mJ6_numberOfTrailingZeros_0f7a4 74 [.int m, .int n] [] w := by
    intro m n q
    refine zk_iload_n hX dJ6_numberOfTrailingZeros_0f7a4_74 rfl ?_
    refine zk_iload_n hX dJ6_numberOfTrailingZeros_0f7a4_75 rfl ?_
    refine zk_iconst (v := 1) hX dJ6_numberOfTrailingZeros_0f7a4_76 (by decide) ?_
    refine zk_iushr hX dJ6_numberOfTrailingZeros_0f7a4_77 ?_
    refine zk_iadd hX dJ6_numberOfTrailingZeros_0f7a4_78 ?_
    refine zk_iret hX hE rfl ⟨rfl, rfl⟩ dJ6_numberOfTrailingZeros_0f7a4_79 ⟨_, rfl, ?_⟩
    exact ⟨q.symm, rfl⟩
  have k62 : ∀ m n : Int32, nI k = zt62 m n → zk0 G X mJ6_numberOfTrailingZeros_0f7a4 62 [.int m, .int n] [] w := by
    intro m n q
    unfold zt62 at q
    refine zk_iload_n hX dJ6_numberOfTrailingZeros_0f7a4_62 rfl ?_
    refine zk_iconst (v := 4) hX dJ6_numberOfTrailingZeros_0f7a4_63 (by decide) ?_
    refine zk_icmp_le (tgt := 74) hX dJ6_numberOfTrailingZeros_0f7a4_64 (by decide) (fun c64 => ?_) (fun c64 => ?_)
    · first | exact k74 _ _ (q.trans (if_pos c64)) | exact k74 _ _ (q.trans (if_neg c64))
    · refine zk_iinc (lo' := [_, _]) hX dJ6_numberOfTrailingZeros_0f7a4_67 rfl (by exact rfl) (Nat.le_of_ble_eq_true rfl) rfl rfl ?_
      refine zk_iload_n hX dJ6_numberOfTrailingZeros_0f7a4_70 rfl ?_
      refine zk_iconst (v := 2) hX dJ6_numberOfTrailingZeros_0f7a4_71 (by decide) ?_
      refine zk_iushr hX dJ6_numberOfTrailingZeros_0f7a4_72 ?_
      refine zk_istore_n (lo' := [_, _]) hX dJ6_numberOfTrailingZeros_0f7a4_73 (Nat.le_of_ble_eq_true rfl) rfl rfl ?_
      first | exact k74 _ _ (q.trans (if_pos c64)) | exact k74 _ _ (q.trans (if_neg c64))
  have k49 : ∀ m n : Int32, nI k = zt49 m n → zk0 G X mJ6_numberOfTrailingZeros_0f7a4 49 [.int m, .int n] [] w := by
    intro m n q
    unfold zt49 at q
    refine zk_iload_n hX dJ6_numberOfTrailingZeros_0f7a4_49 rfl ?_
    refine zk_bipush (v := 16) hX dJ6_numberOfTrailingZeros_0f7a4_50 (by decide) ?_
    refine zk_icmp_le (tgt := 62) hX dJ6_numberOfTrailingZeros_0f7a4_52 (by decide) (fun c52 => ?_) (fun c52 => ?_)
    · first | exact k62 _ _ (q.trans (if_pos c52)) | exact k62 _ _ (q.trans (if_neg c52))
    · refine zk_iinc (lo' := [_, _]) hX dJ6_numberOfTrailingZeros_0f7a4_55 rfl (by exact rfl) (Nat.le_of_ble_eq_true rfl) rfl rfl ?_
      refine zk_iload_n hX dJ6_numberOfTrailingZeros_0f7a4_58 rfl ?_
      refine zk_iconst (v := 4) hX dJ6_numberOfTrailingZeros_0f7a4_59 (by decide) ?_
      refine zk_iushr hX dJ6_numberOfTrailingZeros_0f7a4_60 ?_
      refine zk_istore_n (lo' := [_, _]) hX dJ6_numberOfTrailingZeros_0f7a4_61 (Nat.le_of_ble_eq_true rfl) rfl rfl ?_
      first | exact k62 _ _ (q.trans (if_pos c52)) | exact k62 _ _ (q.trans (if_neg c52))
  have k34 : ∀ m n : Int32, nI k = zt34 m n → zk0 G X mJ6_numberOfTrailingZeros_0f7a4 34 [.int m, .int n] [] w := by
    intro m n q
    unfold zt34 at q
    refine zk_iload_n hX dJ6_numberOfTrailingZeros_0f7a4_34 rfl ?_
    refine zk_sipush (v := 256) hX dJ6_numberOfTrailingZeros_0f7a4_35 (by decide) ?_
    refine zk_icmp_le (tgt := 49) hX dJ6_numberOfTrailingZeros_0f7a4_38 (by decide) (fun c38 => ?_) (fun c38 => ?_)
    · first | exact k49 _ _ (q.trans (if_pos c38)) | exact k49 _ _ (q.trans (if_neg c38))
    · refine zk_iinc (lo' := [_, _]) hX dJ6_numberOfTrailingZeros_0f7a4_41 rfl (by exact rfl) (Nat.le_of_ble_eq_true rfl) rfl rfl ?_
      refine zk_iload_n hX dJ6_numberOfTrailingZeros_0f7a4_44 rfl ?_
      refine zk_bipush (v := 8) hX dJ6_numberOfTrailingZeros_0f7a4_45 (by decide) ?_
      refine zk_iushr hX dJ6_numberOfTrailingZeros_0f7a4_47 ?_
      refine zk_istore_n (lo' := [_, _]) hX dJ6_numberOfTrailingZeros_0f7a4_48 (Nat.le_of_ble_eq_true rfl) rfl rfl ?_
      first | exact k49 _ _ (q.trans (if_pos c38)) | exact k49 _ _ (q.trans (if_neg c38))
  have k19 : ∀ m n : Int32, nI k = zt19 m n → zk0 G X mJ6_numberOfTrailingZeros_0f7a4 19 [.int m, .int n] [] w := by
    intro m n q
    unfold zt19 at q
    refine zk_iload_n hX dJ6_numberOfTrailingZeros_0f7a4_19 rfl ?_
    refine zk_ldcw hX dJ6_numberOfTrailingZeros_0f7a4_20 cnJ6_264 ?_
    refine zk_icmp_le (tgt := 34) hX dJ6_numberOfTrailingZeros_0f7a4_23 (by decide) (fun c23 => ?_) (fun c23 => ?_)
    · first | exact k34 _ _ (q.trans (if_pos c23)) | exact k34 _ _ (q.trans (if_neg c23))
    · refine zk_iinc (lo' := [_, _]) hX dJ6_numberOfTrailingZeros_0f7a4_26 rfl (by exact rfl) (Nat.le_of_ble_eq_true rfl) rfl rfl ?_
      refine zk_iload_n hX dJ6_numberOfTrailingZeros_0f7a4_29 rfl ?_
      refine zk_bipush (v := 16) hX dJ6_numberOfTrailingZeros_0f7a4_30 (by decide) ?_
      refine zk_iushr hX dJ6_numberOfTrailingZeros_0f7a4_32 ?_
      refine zk_istore_n (lo' := [_, _]) hX dJ6_numberOfTrailingZeros_0f7a4_33 (Nat.le_of_ble_eq_true rfl) rfl rfl ?_
      first | exact k34 _ _ (q.trans (if_pos c23)) | exact k34 _ _ (q.trans (if_neg c23))
  refine zk_iload_n hX dJ6_numberOfTrailingZeros_0f7a4_0 rfl ?_
  refine zk_iconst (v := -1) hX dJ6_numberOfTrailingZeros_0f7a4_1 (by decide) ?_
  refine zk_ixor hX dJ6_numberOfTrailingZeros_0f7a4_2 ?_
  refine zk_iload_n hX dJ6_numberOfTrailingZeros_0f7a4_3 rfl ?_
  refine zk_iconst (v := 1) hX dJ6_numberOfTrailingZeros_0f7a4_4 (by decide) ?_
  refine zk_isub hX dJ6_numberOfTrailingZeros_0f7a4_5 ?_
  refine zk_iand hX dJ6_numberOfTrailingZeros_0f7a4_6 ?_
  rw [e]
  refine zk_istore_n (lo' := [_, _]) hX dJ6_numberOfTrailingZeros_0f7a4_7 (Nat.le_of_ble_eq_true rfl) rfl rfl ?_
  refine zk_iload_n hX dJ6_numberOfTrailingZeros_0f7a4_8 rfl ?_
  refine zk_if_gt (tgt := 17) hX dJ6_numberOfTrailingZeros_0f7a4_9 (by decide) (fun c9 => ?_) (fun c9 => ?_)
  · refine zk_iconst (v := 1) hX dJ6_numberOfTrailingZeros_0f7a4_17 (by decide) ?_
    refine zk_istore_n (lo' := [_, _]) hX dJ6_numberOfTrailingZeros_0f7a4_18 (Nat.le_of_ble_eq_true rfl) rfl rfl ?_
    rcases ok with rfl | ok
    · exact absurd c9 (by decide)
    · exact k19 _ _ ok.2.symm
  · refine zk_iload_n hX dJ6_numberOfTrailingZeros_0f7a4_12 rfl ?_
    refine zk_bipush (v := 32) hX dJ6_numberOfTrailingZeros_0f7a4_13 (by decide) ?_
    refine zk_iand hX dJ6_numberOfTrailingZeros_0f7a4_15 ?_
    refine zk_iret hX hE rfl ⟨rfl, rfl⟩ dJ6_numberOfTrailingZeros_0f7a4_16 ⟨_, rfl, ?_⟩
    rcases ok with rfl | ok
    · exact ⟨rfl, rfl⟩
    · exact absurd ok.1 c9
theorem zlow_0 {a k : Nat} (h : zlow a k) : nI a = 0 ↔ 32 ≤ k := by
  constructor
  · intro q
    rcases Nat.lt_or_ge k 32 with c | c
    · exfalso
      have h1 : (nI a).toBitVec.getLsbD k = true := by rw [nI_bv, BitVec.getLsbD_ofNat, h.1]; simp [c]
      rw [q] at h1
      rw [show Int32.toBitVec 0 = 0#32 from rfl, BitVec.getLsbD_zero] at h1
      cases h1
    · exact c
  · intro q
    apply Int32.toBitVec_inj.mp
    apply BitVec.eq_of_getLsbD_eq
    intro i hi
    rw [nI_bv, BitVec.getLsbD_ofNat, h.2 i (by omega)]
    simp
theorem zlow_half {a k : Nat} (h : zlow a k) (hk : 32 ≤ k) : zlow (a >>> 32) (k - 32) := by
  constructor
  · rw [Nat.testBit_shiftRight, show 32 + (k - 32) = k by omega]
    exact h.1
  · intro j hj
    rw [Nat.testBit_shiftRight]
    exact h.2 _ (by omega)
theorem s_J13_ntz {G : zG} {w : zW} {a k : Nat} (h : zlow a k) (hk : k < 60) (ha : a < 2 ^ 64) : zEi G mJ13_numberOfTrailingZeros_95d88 [.long (lN a)] w (nI k) w := by
  refine zC_of (lo := [_, _, _]) kcJ13_numberOfTrailingZeros_95d88 (Nat.le_of_ble_eq_true rfl) rfl (fun X hX hE => ?_)
  refine zk_lload_n hX dJ13_numberOfTrailingZeros_95d88_0 rfl ?_
  refine zk_l2i hX dJ13_numberOfTrailingZeros_95d88_1 ?_
  rw [lN_i]
  refine zk_istore_n (lo' := [_, _, _]) hX dJ13_numberOfTrailingZeros_95d88_2 (Nat.le_of_ble_eq_true rfl) rfl rfl ?_
  refine zk_iload_n hX dJ13_numberOfTrailingZeros_95d88_3 rfl ?_
  refine zk_if_ne (tgt := 21) hX dJ13_numberOfTrailingZeros_95d88_4 (by decide) (fun c4 => ?_) (fun c4 => ?_)
  · refine zk_iload_n hX dJ13_numberOfTrailingZeros_95d88_21 rfl ?_
    refine zk_S1i hX dJ13_numberOfTrailingZeros_95d88_22 kcJ6_numberOfTrailingZeros_0f7a4 mlJ13_311 smJ6_numberOfTrailingZeros_0f7a4 rfl (s_J6_ntz h (by have := mt (zlow_0 h).mpr c4; omega)) (Nat.le_of_ble_eq_true rfl) rfl ?_
    refine zk_iret hX hE rfl ⟨rfl, rfl⟩ dJ13_numberOfTrailingZeros_95d88_25 ⟨_, rfl, ?_⟩
    first | exact ⟨rfl, rfl⟩ | (refine ⟨?_, rfl⟩; have := (zlow_0 h).mp c4; rw [nI_add, show 32 + (k - 32) = k by omega])
  · refine zk_bipush (v := 32) hX dJ13_numberOfTrailingZeros_95d88_7 (by decide) ?_
    refine zk_lload_n hX dJ13_numberOfTrailingZeros_95d88_9 rfl ?_
    refine zk_bipush (v := 32) hX dJ13_numberOfTrailingZeros_95d88_10 (by decide) ?_
    refine zk_lushr hX dJ13_numberOfTrailingZeros_95d88_12 ?_
    rw [show (32 : Int32) = nI 32 from rfl, lN_ushr ha (by decide)]
    refine zk_l2i hX dJ13_numberOfTrailingZeros_95d88_13 ?_
    rw [lN_i]
    refine zk_S1i hX dJ13_numberOfTrailingZeros_95d88_14 kcJ6_numberOfTrailingZeros_0f7a4 mlJ13_311 smJ6_numberOfTrailingZeros_0f7a4 rfl (s_J6_ntz (zlow_half h ((zlow_0 h).mp c4)) (by omega)) (Nat.le_of_ble_eq_true rfl) rfl ?_
    refine zk_iadd hX dJ13_numberOfTrailingZeros_95d88_17 ?_
    refine zk_goto (tgt := 25) hX dJ13_numberOfTrailingZeros_95d88_18 (by decide) ?_
    refine zk_iret hX hE rfl ⟨rfl, rfl⟩ dJ13_numberOfTrailingZeros_95d88_25 ⟨_, rfl, ?_⟩
    first | exact ⟨rfl, rfl⟩ | (refine ⟨?_, rfl⟩; have := (zlow_0 h).mp c4; rw [nI_add, show 32 + (k - 32) = k by omega])

