def zbits (P : Nat → Bool) : Nat → Nat
  | 0 => 0
  | n + 1 => zbits P n + if P n = true then 2 ^ n else 0
theorem zbits_lt (P : Nat → Bool) : ∀ n, zbits P n < 2 ^ n
  | 0 => by show 0 < 2 ^ 0; decide
  | n + 1 => by
    have h := zbits_lt P n
    have h2 : 2 ^ (n + 1) = 2 ^ n + 2 ^ n := by rw [Nat.pow_succ]; omega
    unfold zbits
    split <;> omega
theorem zbits_bit (P : Nat → Bool) : ∀ n i, (zbits P n).testBit i = (decide (i < n) && P i)
  | 0, i => by simp [zbits]
  | n + 1, i => by
    have h := zbits_lt P n
    have ih := zbits_bit P n i
    unfold zbits
    by_cases hp : P n = true
    · rw [if_pos hp, Nat.add_comm]
      rcases Nat.lt_trichotomy i n with q | q | q
      · rw [Nat.testBit_two_pow_add_gt q, ih]
        simp [q, Nat.lt_succ_of_lt q]
      · subst q
        rw [Nat.testBit_two_pow_add_eq, ih]
        simp [hp]
      · have hl : 2 ^ n + zbits P n < 2 ^ i := by
          have h1 : 2 ^ (n + 1) ≤ 2 ^ i := Nat.pow_le_pow_right (by decide) q
          have h2 : 2 ^ (n + 1) = 2 ^ n + 2 ^ n := by rw [Nat.pow_succ]; omega
          omega
        rw [Nat.testBit_lt_two_pow hl]
        have : ¬ i < n + 1 := by omega
        simp [this]
    · rw [if_neg hp, Nat.add_zero, ih]
      rcases Nat.lt_trichotomy i n with q | q | q
      · simp [q, Nat.lt_succ_of_lt q]
      · subst q
        simp at hp
        simp [hp]
      · have h1 : ¬ i < n + 1 := by omega
        have h2 : ¬ i < n := by omega
        simp [h1, h2]
theorem zbits_of {P : Nat → Bool} {n a : Nat} (ha : a < 2 ^ n) (h : ∀ i, i < n → a.testBit i = P i) : a = zbits P n := by
  apply Nat.eq_of_testBit_eq
  intro i
  rw [zbits_bit]
  by_cases hi : i < n
  · simp [hi, h i hi]
  · have h1 : a < 2 ^ i := Nat.lt_of_lt_of_le ha (Nat.pow_le_pow_right (by decide) (by omega))
    rw [Nat.testBit_lt_two_pow h1]
    simp [hi]
theorem zbits_c {P R : Nat → Bool} : ∀ {n : Nat}, (∀ i, i < n → P i = R i) → zbits P n = zbits R n
  | 0, _ => rfl
  | n + 1, h => by
    unfold zbits
    rw [zbits_c (fun i hi => h i (by omega)), h n (by omega)]
theorem zbits_inj {P R : Nat → Bool} {n : Nat} (h : zbits P n = zbits R n) {i : Nat} (hi : i < n) : P i = R i := by
  have h1 := zbits_bit P n i
  have h2 := zbits_bit R n i
  rw [h] at h1
  simpa [hi] using h1.symm.trans h2
theorem zbits_cnt {P : Nat → Bool} {n m : Nat} (h : n ≤ m) : zcnt (zbits P n).testBit m = zcnt P n := by
  obtain ⟨d, rfl⟩ : ∃ d, m = n + d := ⟨m - n, by omega⟩
  rw [zcnt_add]
  have h1 : zcnt (zbits P n).testBit n = zcnt P n := zcnt_c (fun i hi => by rw [zbits_bit]; simp [hi])
  have h2 : ∀ k, zcnt (fun i => (zbits P n).testBit (n + i)) k = 0 := by
    intro k
    induction k with
    | zero => rfl
    | succ k ih =>
      rw [zcnt_f (by rw [zbits_bit]; have q : ¬ n + k < n := by omega
                     simp [q]), ih]
  rw [h1, h2, Nat.add_zero]
abbrev zS : Type := Nat → Bool
def zT (S : zS) : Int64 := lN (zbits S 60)
def zLo (S : zS) : Int64 := lN (zbits (fun i => S (60 + i)) 60)
def zun (S T : zS) : zS := fun c => S c || T c
def zno : zS := fun _ => false
def zdiff (S T : zS) : zS := fun c => S c && !T c
theorem zb_or {P R : Nat → Bool} {n : Nat} : zbits P n ||| zbits R n = zbits (fun i => P i || R i) n := by
  refine zbits_of ?_ (fun i hi => ?_)
  · exact Nat.or_lt_two_pow (zbits_lt P n) (zbits_lt R n)
  · rw [Nat.testBit_or, zbits_bit, zbits_bit]
    simp [hi]
theorem zb_diff {P R : Nat → Bool} {n : Nat} : zbits P n ^^^ (zbits P n &&& zbits R n) = zbits (fun i => P i && !R i) n := by
  refine zbits_of ?_ (fun i hi => ?_)
  · exact Nat.xor_lt_two_pow (zbits_lt P n) (Nat.lt_of_le_of_lt Nat.and_le_left (zbits_lt P n))
  · rw [Nat.testBit_xor, Nat.testBit_and, zbits_bit, zbits_bit]
    simp [hi]
    cases P i <;> cases R i <;> rfl
theorem zT_or (S T : zS) : zT S ||| zT T = zT (zun S T) := by unfold zT; rw [lN_or, zb_or]; rfl
theorem zLo_or (S T : zS) : zLo S ||| zLo T = zLo (zun S T) := by unfold zLo; rw [lN_or, zb_or]; rfl
theorem zT_diff (S T : zS) : zT S &&& (zT T ^^^ -1) = zT (zdiff S T) := by unfold zT; rw [lN_andnot, zb_diff]; rfl
theorem zLo_diff (S T : zS) : zLo S &&& (zLo T ^^^ -1) = zLo (zdiff S T) := by unfold zLo; rw [lN_andnot, zb_diff]; rfl
theorem zbits_0 : ∀ n, zbits (fun _ => false) n = 0
  | 0 => rfl
  | n + 1 => by unfold zbits; rw [zbits_0 n]; rfl
theorem zT_no : zT zno = 0 := by unfold zT zno; rw [zbits_0]; rfl
theorem zLo_no : zLo zno = 0 := by unfold zLo zno; rw [zbits_0]; rfl
theorem zp64 {a : Nat} (h : a < 2 ^ 60) : a < 2 ^ 64 := Nat.lt_of_lt_of_le h (by decide)
theorem zT_eq {S T : zS} : zT S = zT T ↔ ∀ c, c < 60 → S c = T c := by
  unfold zT
  rw [lN_inj (zp64 (zbits_lt _ _)) (zp64 (zbits_lt _ _))]
  exact ⟨fun h c hc => zbits_inj h hc, fun h => zbits_c h⟩
theorem zLo_eq {S T : zS} : zLo S = zLo T ↔ ∀ c, c < 60 → S (60 + c) = T (60 + c) := by
  unfold zLo
  rw [lN_inj (zp64 (zbits_lt _ _)) (zp64 (zbits_lt _ _))]
  exact ⟨fun h c hc => zbits_inj (P := fun i => S (60 + i)) (R := fun i => T (60 + i)) h hc, fun h => zbits_c h⟩
theorem zTL_eq {S T : zS} : (zT S = zT T ∧ zLo S = zLo T) ↔ ∀ c, c < 120 → S c = T c := by
  rw [zT_eq, zLo_eq]
  constructor
  · intro ⟨h1, h2⟩ c hc
    by_cases h : c < 60
    · exact h1 c h
    · have := h2 (c - 60) (by omega)
      rwa [show 60 + (c - 60) = c by omega] at this
  · intro h
    exact ⟨fun c hc => h c (by omega), fun c hc => h (60 + c) (by omega)⟩
/-- cell k holds the set S -/
def zHas (w : zW) (k : Nat) (S : zS) : Prop := w.2.1 k 0 = zT S ∧ w.2.1 k 1 = zLo S
def zsetS (w : zW) (k : Nat) (S : zS) : zW := zsl (zsl w k 0 (zT S)) k 1 (zLo S)
theorem zsetS_has {w : zW} {k : Nat} {S : zS} : zHas (zsetS w k S) k S := by
  unfold zHas zsetS
  constructor
  · rw [zsl_2, if_neg (by omega), zsl_2, if_pos ⟨rfl, rfl⟩]
  · rw [zsl_2, if_pos ⟨rfl, rfl⟩]
theorem zsetS_2 {w : zW} {k : Nat} {S : zS} {a : Nat} (h : a ≠ k) : (zsetS w k S).2.1 a = w.2.1 a := by
  unfold zsetS
  funext i
  rw [zsl_2, if_neg (by omega), zsl_2, if_neg (by omega)]
theorem zsetS_1 {w : zW} {k : Nat} {S : zS} : (zsetS w k S).1 = w.1 := rfl
theorem zsetS_ss {w : zW} {k : Nat} {S T : zS} : zsetS (zsetS w k S) k T = zsetS w k T := by
  unfold zsetS zsl
  refine Prod.ext rfl (Prod.ext ?_ rfl)
  funext a i
  show (if a = k ∧ i = 1 then zLo T else if a = k ∧ i = 0 then zT T else if a = k ∧ i = 1 then zLo S else if a = k ∧ i = 0 then zT S else w.2.1 a i) = if a = k ∧ i = 1 then zLo T else if a = k ∧ i = 0 then zT T else w.2.1 a i
  by_cases h1 : a = k ∧ i = 1
  · rw [if_pos h1, if_pos h1]
  · by_cases h0 : a = k ∧ i = 0
    · rw [if_neg h1, if_pos h0, if_neg h1, if_pos h0]
    · rw [if_neg h1, if_neg h0, if_neg h1, if_neg h0, if_neg h1, if_neg h0]
theorem zHas_o {w w' : zW} {k : Nat} {S : zS} (h : zHas w k S) (e : w'.2.1 k = w.2.1 k) : zHas w' k S := by
  unfold zHas
  rw [e]
  exact h
def zCe (k : Nat) : Prop := k < zN ∧ zsh k = (0, 1, 0)
theorem zbc_1 {a : Nat} (ha : a < 2 ^ 64) : lN a - (((lN a).toUInt64 >>> ((Int32.toInt64 1).toUInt64 &&& Int64.toUInt64 63)).toInt64 &&& 6148914691236517205) = lN (zx1 8 a) := by
  rw [show (1 : Int32) = nI 1 from rfl, lN_ushr ha (by decide), show (6148914691236517205 : Int64) = lN (zM5 8) from rfl, lN_and, Nat.shiftRight_eq_div_pow, lN_sub (Nat.le_trans Nat.and_le_left (Nat.div_le_self _ _))]
  rfl
theorem zx1_le (a : Nat) : zx1 8 a ≤ a := by unfold zx1; omega
theorem zbc_2 {a : Nat} (ha : a < 2 ^ 64) : (lN a &&& 3689348814741910323) + (((lN a).toUInt64 >>> ((Int32.toInt64 2).toUInt64 &&& Int64.toUInt64 63)).toInt64 &&& 3689348814741910323) = lN ((a &&& zM3 8) + ((a / 4) &&& zM3 8)) := by
  rw [show (2 : Int32) = nI 2 from rfl, lN_ushr ha (by decide), show (3689348814741910323 : Int64) = lN (zM3 8) from rfl, lN_and, lN_and, Nat.shiftRight_eq_div_pow, lN_add]
theorem zbc_3 {a : Nat} (ha : a < 2 ^ 64) : (lN a + ((lN a).toUInt64 >>> ((Int32.toInt64 4).toUInt64 &&& Int64.toUInt64 63)).toInt64) &&& 1085102592571150095 = lN ((a + a / 16) &&& zMF 8) := by
  rw [show (4 : Int32) = nI 4 from rfl, lN_ushr ha (by decide), show (1085102592571150095 : Int64) = lN (zMF 8) from rfl, Nat.shiftRight_eq_div_pow, lN_add, lN_and]
theorem zbc_4 {a : Nat} (ha : a < 2 ^ 64) : lN a + ((lN a).toUInt64 >>> ((Int32.toInt64 8).toUInt64 &&& Int64.toUInt64 63)).toInt64 = lN (a + a / 256) := by
  rw [show (8 : Int32) = nI 8 from rfl, lN_ushr ha (by decide), Nat.shiftRight_eq_div_pow, lN_add]
theorem zbc_5 {a : Nat} (ha : a < 2 ^ 64) : lN a + ((lN a).toUInt64 >>> ((Int32.toInt64 16).toUInt64 &&& Int64.toUInt64 63)).toInt64 = lN (a + a / 65536) := by
  rw [show (16 : Int32) = nI 16 from rfl, lN_ushr ha (by decide), Nat.shiftRight_eq_div_pow, lN_add]
theorem zbc_6 {a : Nat} (ha : a < 2 ^ 64) : lN a + ((lN a).toUInt64 >>> ((Int32.toInt64 32).toUInt64 &&& Int64.toUInt64 63)).toInt64 = lN (a + a / 4294967296) := by
  rw [show (32 : Int32) = nI 32 from rfl, lN_ushr ha (by decide), Nat.shiftRight_eq_div_pow, lN_add]
theorem zM3_v : zM3 8 = 3689348814741910323 := rfl
theorem zMF_v : zMF 8 = 1085102592571150095 := rfl
theorem zx2_lt (a : Nat) : (a &&& zM3 8) + ((a / 4) &&& zM3 8) < 2 ^ 63 := by
  have h1 : (a &&& zM3 8) ≤ zM3 8 := Nat.and_le_right
  have h2 : ((a / 4) &&& zM3 8) ≤ zM3 8 := Nat.and_le_right
  rw [zM3_v] at *
  omega
theorem zx3_lt (a : Nat) : a &&& zMF 8 < 2 ^ 60 := by
  have h1 : a &&& zMF 8 ≤ zMF 8 := Nat.and_le_right
  rw [zMF_v] at *
  omega
theorem zbc_7 {a : Nat} : (lN a).toInt32 &&& 127 = nI (a % 128) := by
  rw [lN_i, show (127 : Int32) = nI 127 from rfl, nI_and, show (127 : Nat) = 2 ^ 7 - 1 from rfl, Nat.and_two_pow_sub_one_eq_mod]
theorem s_J13_bitCount {G : zG} {w : zW} {a : Nat} (ha : a < 2 ^ 64) : zEi G mJ13_bitCount_95d88 [.long (lN a)] w (nI (zcnt a.testBit 64)) w := by
  have h1 : zx1 8 a < 2 ^ 64 := Nat.lt_of_le_of_lt (zx1_le a) ha
  have h2 : zx2 8 a < 2 ^ 64 := Nat.lt_trans (zx2_lt (zx1 8 a)) (by decide)
  have h3 : zx3 8 a < 2 ^ 60 := zx3_lt (zx2 8 a + zx2 8 a / 16)
  generalize e4 : zx3 8 a + zx3 8 a / 256 = b4
  have h4 : b4 < 2 ^ 61 := by omega
  generalize e5 : b4 + b4 / 65536 = b5
  have h5 : b5 < 2 ^ 62 := by omega
  have ez : (b5 + b5 / 4294967296) % 128 = zcnt a.testBit 64 := by
    rw [← zpop_eq, ← e5, ← e4]
    rfl
  refine zC_of (lo := [_, _]) kcJ13_bitCount_95d88 (Nat.le_of_ble_eq_true rfl) rfl (fun X hX hE => ?_)
  refine zk_lload_n hX dJ13_bitCount_95d88_0 rfl ?_
  refine zk_lload_n hX dJ13_bitCount_95d88_1 rfl ?_
  refine zk_iconst (v := 1) hX dJ13_bitCount_95d88_2 (by decide) ?_
  refine zk_lushr hX dJ13_bitCount_95d88_3 ?_
  refine zk_ldc2 hX dJ13_bitCount_95d88_4 cnJ13_314 ?_
  refine zk_land hX dJ13_bitCount_95d88_7 ?_
  refine zk_lsub hX dJ13_bitCount_95d88_8 ?_
  rw [zbc_1 ha]
  refine zk_lstore_n (lo' := [_, _]) hX dJ13_bitCount_95d88_9 (Nat.le_of_ble_eq_true rfl) rfl rfl ?_
  refine zk_lload_n hX dJ13_bitCount_95d88_10 rfl ?_
  refine zk_ldc2 hX dJ13_bitCount_95d88_11 cnJ13_316 ?_
  refine zk_land hX dJ13_bitCount_95d88_14 ?_
  refine zk_lload_n hX dJ13_bitCount_95d88_15 rfl ?_
  refine zk_iconst (v := 2) hX dJ13_bitCount_95d88_16 (by decide) ?_
  refine zk_lushr hX dJ13_bitCount_95d88_17 ?_
  refine zk_ldc2 hX dJ13_bitCount_95d88_18 cnJ13_316 ?_
  refine zk_land hX dJ13_bitCount_95d88_21 ?_
  refine zk_ladd hX dJ13_bitCount_95d88_22 ?_
  rw [zbc_2 h1, show (zx1 8 a &&& zM3 8) + ((zx1 8 a / 4) &&& zM3 8) = zx2 8 a from rfl]
  refine zk_lstore_n (lo' := [_, _]) hX dJ13_bitCount_95d88_23 (Nat.le_of_ble_eq_true rfl) rfl rfl ?_
  refine zk_lload_n hX dJ13_bitCount_95d88_24 rfl ?_
  refine zk_lload_n hX dJ13_bitCount_95d88_25 rfl ?_
  refine zk_iconst (v := 4) hX dJ13_bitCount_95d88_26 (by decide) ?_
  refine zk_lushr hX dJ13_bitCount_95d88_27 ?_
  refine zk_ladd hX dJ13_bitCount_95d88_28 ?_
  refine zk_ldc2 hX dJ13_bitCount_95d88_29 cnJ13_318 ?_
  refine zk_land hX dJ13_bitCount_95d88_32 ?_
  rw [zbc_3 h2, show (zx2 8 a + zx2 8 a / 16) &&& zMF 8 = zx3 8 a from rfl]
  refine zk_lstore_n (lo' := [_, _]) hX dJ13_bitCount_95d88_33 (Nat.le_of_ble_eq_true rfl) rfl rfl ?_
  refine zk_lload_n hX dJ13_bitCount_95d88_34 rfl ?_
  refine zk_lload_n hX dJ13_bitCount_95d88_35 rfl ?_
  refine zk_bipush (v := 8) hX dJ13_bitCount_95d88_36 (by decide) ?_
  refine zk_lushr hX dJ13_bitCount_95d88_38 ?_
  refine zk_ladd hX dJ13_bitCount_95d88_39 ?_
  rw [zbc_4 (by omega), e4]
  refine zk_lstore_n (lo' := [_, _]) hX dJ13_bitCount_95d88_40 (Nat.le_of_ble_eq_true rfl) rfl rfl ?_
  refine zk_lload_n hX dJ13_bitCount_95d88_41 rfl ?_
  refine zk_lload_n hX dJ13_bitCount_95d88_42 rfl ?_
  refine zk_bipush (v := 16) hX dJ13_bitCount_95d88_43 (by decide) ?_
  refine zk_lushr hX dJ13_bitCount_95d88_45 ?_
  refine zk_ladd hX dJ13_bitCount_95d88_46 ?_
  rw [zbc_5 (by omega), e5]
  refine zk_lstore_n (lo' := [_, _]) hX dJ13_bitCount_95d88_47 (Nat.le_of_ble_eq_true rfl) rfl rfl ?_
  refine zk_lload_n hX dJ13_bitCount_95d88_48 rfl ?_
  refine zk_lload_n hX dJ13_bitCount_95d88_49 rfl ?_
  refine zk_bipush (v := 32) hX dJ13_bitCount_95d88_50 (by decide) ?_
  refine zk_lushr hX dJ13_bitCount_95d88_52 ?_
  refine zk_ladd hX dJ13_bitCount_95d88_53 ?_
  rw [zbc_6 (by omega)]
  refine zk_lstore_n (lo' := [_, _]) hX dJ13_bitCount_95d88_54 (Nat.le_of_ble_eq_true rfl) rfl rfl ?_
  refine zk_lload_n hX dJ13_bitCount_95d88_55 rfl ?_
  refine zk_l2i hX dJ13_bitCount_95d88_56 ?_
  refine zk_bipush (v := 127) hX dJ13_bitCount_95d88_57 (by decide) ?_
  refine zk_iand hX dJ13_bitCount_95d88_59 ?_
  rw [zbc_7, ez]
  refine zk_iret hX hE rfl ⟨rfl, rfl⟩ dJ13_bitCount_95d88_60 ⟨_, rfl, ?_⟩
  exact ⟨rfl, rfl⟩
theorem s_X1_clear {G : zG} {w : zW} {k : Nat} (hC : zCe k) : zEv G mX1_clear [.ref k] w (zsetS w k zno) := by
  refine zC_of (lo := [_]) kcX1_clear (Nat.le_of_ble_eq_true rfl) rfl (fun X hX hE => ?_)
  refine zk_aload_n hX dX1_clear_0 rfl ?_
  refine zk_lconst (v := 0) hX dX1_clear_1 rfl ?_
  refine zk_putL hX dX1_clear_2 plX1_9 (fun h => by cases h) hC.1 hC.2 ?_
  refine zk_aload_n hX dX1_clear_5 rfl ?_
  refine zk_lconst (v := 0) hX dX1_clear_6 rfl ?_
  refine zk_putL hX dX1_clear_7 plX1_15 (fun h => by cases h) hC.1 hC.2 ?_
  refine zk_vret hX hE rfl ⟨rfl, rfl⟩ dX1_clear_10 ⟨rfl, ?_⟩
  unfold zsetS; rw [zT_no, zLo_no]
theorem zsl_o {w : zW} {k i : Nat} {v : Int64} {a j : Nat} (h : ¬ (a = k ∧ j = i)) : (zsl w k i v).2.1 a j = w.2.1 a j := by rw [zsl_2, if_neg h]
theorem s_X1_become {G : zG} {w : zW} {k k' : Nat} {S : zS} (hC : zCe k) (hD : zCe k') (h : zHas w k' S) : zEv G mX1_become [.ref k, .ref k'] w (zsetS w k S) := by
  refine zC_of (lo := [_, _]) kcX1_become (Nat.le_of_ble_eq_true rfl) rfl (fun X hX hE => ?_)
  refine zk_aload_n hX dX1_become_0 rfl ?_
  refine zk_aload_n hX dX1_become_1 rfl ?_
  refine zk_getL hX dX1_become_2 flX1_9 hD.1 hD.2 ?_
  refine zk_putL hX dX1_become_5 plX1_9 (fun h => by cases h) hC.1 hC.2 ?_
  refine zk_aload_n hX dX1_become_8 rfl ?_
  refine zk_aload_n hX dX1_become_9 rfl ?_
  refine zk_getL hX dX1_become_10 flX1_15 hD.1 hD.2 ?_
  refine zk_putL hX dX1_become_13 plX1_15 (fun h => by cases h) hC.1 hC.2 ?_
  refine zk_vret hX hE rfl ⟨rfl, rfl⟩ dX1_become_16 ⟨rfl, ?_⟩
  unfold zsetS; rw [h.1, zsl_o (by omega), h.2]
theorem s_X1_join {G : zG} {w : zW} {k : Nat} {S T : zS} (hC : zCe k) (h : zHas w k S) : zEv G mX1_join [.ref k, .long (zT T), .long (zLo T)] w (zsetS w k (zun S T)) := by
  refine zC_of (lo := [_, _, _, _, _]) kcX1_join (Nat.le_of_ble_eq_true rfl) rfl (fun X hX hE => ?_)
  refine zk_aload_n hX dX1_join_0 rfl ?_
  refine zk_dup hX dX1_join_1 rfl ?_
  refine zk_getL hX dX1_join_2 flX1_9 hC.1 hC.2 ?_
  refine zk_lload_n hX dX1_join_5 rfl ?_
  refine zk_lor hX dX1_join_6 ?_
  refine zk_putL hX dX1_join_7 plX1_9 (fun h => by cases h) hC.1 hC.2 ?_
  refine zk_aload_n hX dX1_join_10 rfl ?_
  refine zk_dup hX dX1_join_11 rfl ?_
  refine zk_getL hX dX1_join_12 flX1_15 hC.1 hC.2 ?_
  refine zk_lload_n hX dX1_join_15 rfl ?_
  refine zk_lor hX dX1_join_16 ?_
  refine zk_putL hX dX1_join_17 plX1_15 (fun h => by cases h) hC.1 hC.2 ?_
  refine zk_vret hX hE rfl ⟨rfl, rfl⟩ dX1_join_20 ⟨rfl, ?_⟩
  unfold zsetS; rw [zsl_o (by omega), h.1, h.2, zT_or, zLo_or]
theorem s_X1_leave {G : zG} {w : zW} {k k' : Nat} {S T : zS} (hC : zCe k) (hD : zCe k') (h : zHas w k S) (h' : zHas w k' T) : zEv G mX1_leave [.ref k, .ref k'] w (zsetS w k (zdiff S T)) := by
  refine zC_of (lo := [_, _]) kcX1_leave (Nat.le_of_ble_eq_true rfl) rfl (fun X hX hE => ?_)
  refine zk_aload_n hX dX1_leave_0 rfl ?_
  refine zk_aload_n hX dX1_leave_1 rfl ?_
  refine zk_getL hX dX1_leave_2 flX1_9 hC.1 hC.2 ?_
  refine zk_aload_n hX dX1_leave_5 rfl ?_
  refine zk_getL hX dX1_leave_6 flX1_9 hD.1 hD.2 ?_
  refine zk_ldc2 hX dX1_leave_9 cnX1_18 ?_
  refine zk_lxor hX dX1_leave_12 ?_
  refine zk_land hX dX1_leave_13 ?_
  refine zk_putL hX dX1_leave_14 plX1_9 (fun h => by cases h) hC.1 hC.2 ?_
  refine zk_aload_n hX dX1_leave_17 rfl ?_
  refine zk_aload_n hX dX1_leave_18 rfl ?_
  refine zk_getL hX dX1_leave_19 flX1_15 hC.1 hC.2 ?_
  refine zk_aload_n hX dX1_leave_22 rfl ?_
  refine zk_getL hX dX1_leave_23 flX1_15 hD.1 hD.2 ?_
  refine zk_ldc2 hX dX1_leave_26 cnX1_18 ?_
  refine zk_lxor hX dX1_leave_29 ?_
  refine zk_land hX dX1_leave_30 ?_
  refine zk_putL hX dX1_leave_31 plX1_15 (fun h => by cases h) hC.1 hC.2 ?_
  refine zk_vret hX hE rfl ⟨rfl, rfl⟩ dX1_leave_34 ⟨rfl, ?_⟩
  unfold zsetS; rw [zsl_o (by omega), zsl_o (by omega), h.1, h.2, h'.1, h'.2, zT_diff, zLo_diff]
theorem s_X1_is {G : zG} {w : zW} {k : Nat} {S T : zS} (hC : zCe k) (h : zHas w k S) : zEi G mX1_is [.ref k, .long (zT T), .long (zLo T)] w (zb (zT S = zT T ∧ zLo S = zLo T)) w := by
  refine zC_of (lo := [_, _, _, _, _]) kcX1_is (Nat.le_of_ble_eq_true rfl) rfl (fun X hX hE => ?_)
  refine zk_aload_n hX dX1_is_0 rfl ?_
  refine zk_getL hX dX1_is_1 flX1_9 hC.1 hC.2 ?_
  rw [h.1]
  refine zk_lload_n hX dX1_is_4 rfl ?_
  refine zk_lcmp hX dX1_is_5 ?_
  refine zk_if_ne (tgt := 22) hX dX1_is_6 (by decide) (fun c6 => ?_) (fun c6 => ?_)
  · refine zk_iconst (v := 0) hX dX1_is_22 (by decide) ?_
    refine zk_zret hX hE rfl ⟨rfl, rfl⟩ dX1_is_23 rfl ⟨_, rfl, ?_⟩
    refine ⟨?_, rfl⟩
    simp only [lg_cmp_eq] at *
    first | exact zb_t' (by grind) | exact zb_f' (by grind)
  · refine zk_aload_n hX dX1_is_9 rfl ?_
    refine zk_getL hX dX1_is_10 flX1_15 hC.1 hC.2 ?_
    refine zk_lload_n hX dX1_is_13 rfl ?_
    rw [h.2]
    refine zk_lcmp hX dX1_is_14 ?_
    refine zk_if_ne (tgt := 22) hX dX1_is_15 (by decide) (fun c15 => ?_) (fun c15 => ?_)
    · refine zk_iconst (v := 0) hX dX1_is_22 (by decide) ?_
      refine zk_zret hX hE rfl ⟨rfl, rfl⟩ dX1_is_23 rfl ⟨_, rfl, ?_⟩
      refine ⟨?_, rfl⟩
      simp only [lg_cmp_eq] at *
      first | exact zb_t' (by grind) | exact zb_f' (by grind)
    · refine zk_iconst (v := 1) hX dX1_is_18 (by decide) ?_
      refine zk_goto (tgt := 23) hX dX1_is_19 (by decide) ?_
      refine zk_zret hX hE rfl ⟨rfl, rfl⟩ dX1_is_23 rfl ⟨_, rfl, ?_⟩
      refine ⟨?_, rfl⟩
      simp only [lg_cmp_eq] at *
      first | exact zb_t' (by grind) | exact zb_f' (by grind)
theorem s_X1_has {G : zG} {w : zW} {k k' : Nat} {S T : zS} (hC : zCe k) (hD : zCe k') (h : zHas w k S) (h' : zHas w k' T) : zEi G mX1_has [.ref k, .ref k'] w (zb (zT (zdiff T S) = 0 ∧ zLo (zdiff T S) = 0)) w := by
  refine zC_of (lo := [_, _]) kcX1_has (Nat.le_of_ble_eq_true rfl) rfl (fun X hX hE => ?_)
  refine zk_aload_n hX dX1_has_0 rfl ?_
  refine zk_getL hX dX1_has_1 flX1_9 hD.1 hD.2 ?_
  refine zk_aload_n hX dX1_has_4 rfl ?_
  refine zk_getL hX dX1_has_5 flX1_9 hC.1 hC.2 ?_
  refine zk_ldc2 hX dX1_has_8 cnX1_18 ?_
  refine zk_lxor hX dX1_has_11 ?_
  refine zk_land hX dX1_has_12 ?_
  refine zk_lconst (v := 0) hX dX1_has_13 rfl ?_
  rw [h.1, h'.1, zT_diff]
  refine zk_lcmp hX dX1_has_14 ?_
  refine zk_if_ne (tgt := 40) hX dX1_has_15 (by decide) (fun c15 => ?_) (fun c15 => ?_)
  · refine zk_iconst (v := 0) hX dX1_has_40 (by decide) ?_
    refine zk_zret hX hE rfl ⟨rfl, rfl⟩ dX1_has_41 rfl ⟨_, rfl, ?_⟩
    refine ⟨?_, rfl⟩
    simp only [lg_cmp_eq] at *
    first | exact zb_t' (by grind) | exact zb_f' (by grind)
  · refine zk_aload_n hX dX1_has_18 rfl ?_
    refine zk_getL hX dX1_has_19 flX1_15 hD.1 hD.2 ?_
    refine zk_aload_n hX dX1_has_22 rfl ?_
    refine zk_getL hX dX1_has_23 flX1_15 hC.1 hC.2 ?_
    refine zk_ldc2 hX dX1_has_26 cnX1_18 ?_
    refine zk_lxor hX dX1_has_29 ?_
    refine zk_land hX dX1_has_30 ?_
    refine zk_lconst (v := 0) hX dX1_has_31 rfl ?_
    rw [h.2, h'.2, zLo_diff]
    refine zk_lcmp hX dX1_has_32 ?_
    refine zk_if_ne (tgt := 40) hX dX1_has_33 (by decide) (fun c33 => ?_) (fun c33 => ?_)
    · refine zk_iconst (v := 0) hX dX1_has_40 (by decide) ?_
      refine zk_zret hX hE rfl ⟨rfl, rfl⟩ dX1_has_41 rfl ⟨_, rfl, ?_⟩
      refine ⟨?_, rfl⟩
      simp only [lg_cmp_eq] at *
      first | exact zb_t' (by grind) | exact zb_f' (by grind)
    · refine zk_iconst (v := 1) hX dX1_has_36 (by decide) ?_
      refine zk_goto (tgt := 41) hX dX1_has_37 (by decide) ?_
      refine zk_zret hX hE rfl ⟨rfl, rfl⟩ dX1_has_41 rfl ⟨_, rfl, ?_⟩
      refine ⟨?_, rfl⟩
      simp only [lg_cmp_eq] at *
      first | exact zb_t' (by grind) | exact zb_f' (by grind)
def zcard (S : zS) : Nat := zcnt S 120
theorem s_X1_number {G : zG} {w : zW} {k : Nat} {S : zS} (hC : zCe k) (h : zHas w k S) : zEi G mX1_number [.ref k] w (nI (zcard S)) w := by
  refine zC_of (lo := [_]) kcX1_number (Nat.le_of_ble_eq_true rfl) rfl (fun X hX hE => ?_)
  refine zk_aload_n hX dX1_number_0 rfl ?_
  refine zk_getL hX dX1_number_1 flX1_9 hC.1 hC.2 ?_
  rw [h.1]
  refine zk_S1i hX dX1_number_4 kcJ13_bitCount_95d88 mlX1_20 smJ13_bitCount_95d88 rfl (s_J13_bitCount (zp64 (zbits_lt _ _))) (Nat.le_of_ble_eq_true rfl) rfl ?_
  refine zk_aload_n hX dX1_number_7 rfl ?_
  refine zk_getL hX dX1_number_8 flX1_15 hC.1 hC.2 ?_
  rw [h.2]
  refine zk_S1i hX dX1_number_11 kcJ13_bitCount_95d88 mlX1_20 smJ13_bitCount_95d88 rfl (s_J13_bitCount (zp64 (zbits_lt _ _))) (Nat.le_of_ble_eq_true rfl) rfl ?_
  refine zk_iadd hX dX1_number_14 ?_
  refine zk_iret hX hE rfl ⟨rfl, rfl⟩ dX1_number_15 ⟨_, rfl, ?_⟩
  refine ⟨?_, rfl⟩
  rw [zbits_cnt (by decide), zbits_cnt (by decide), nI_add]
  unfold zcard
  rw [show (120 : Nat) = 60 + 60 from rfl, zcnt_add]
theorem s_X1_isCell {G : zG} {w : zW} (x y : Int32) : zEi G mX1_isCell [.int x, .int y] w (zb ((0 ≤ x ∧ x < 12) ∧ (0 ≤ y ∧ y < 10))) w := by
  refine zC_of (lo := [_, _]) kcX1_isCell (Nat.le_of_ble_eq_true rfl) rfl (fun X hX hE => ?_)
  refine zk_iload_n hX dX1_isCell_0 rfl ?_
  refine zk_if_lt (tgt := 24) hX dX1_isCell_1 (by decide) (fun c1 => ?_) (fun c1 => ?_)
  · refine zk_iconst (v := 0) hX dX1_isCell_24 (by decide) ?_
    refine zk_zret hX hE rfl ⟨rfl, rfl⟩ dX1_isCell_25 rfl ⟨_, rfl, ?_⟩
    exact ⟨by first | exact zb_t' (by grind) | exact zb_f' (by grind), rfl⟩
  · refine zk_iload_n hX dX1_isCell_4 rfl ?_
    refine zk_bipush (v := 12) hX dX1_isCell_5 (by decide) ?_
    refine zk_icmp_ge (tgt := 24) hX dX1_isCell_7 (by decide) (fun c7 => ?_) (fun c7 => ?_)
    · refine zk_iconst (v := 0) hX dX1_isCell_24 (by decide) ?_
      refine zk_zret hX hE rfl ⟨rfl, rfl⟩ dX1_isCell_25 rfl ⟨_, rfl, ?_⟩
      exact ⟨by first | exact zb_t' (by grind) | exact zb_f' (by grind), rfl⟩
    · refine zk_iload_n hX dX1_isCell_10 rfl ?_
      refine zk_if_lt (tgt := 24) hX dX1_isCell_11 (by decide) (fun c11 => ?_) (fun c11 => ?_)
      · refine zk_iconst (v := 0) hX dX1_isCell_24 (by decide) ?_
        refine zk_zret hX hE rfl ⟨rfl, rfl⟩ dX1_isCell_25 rfl ⟨_, rfl, ?_⟩
        exact ⟨by first | exact zb_t' (by grind) | exact zb_f' (by grind), rfl⟩
      · refine zk_iload_n hX dX1_isCell_14 rfl ?_
        refine zk_bipush (v := 10) hX dX1_isCell_15 (by decide) ?_
        refine zk_icmp_ge (tgt := 24) hX dX1_isCell_17 (by decide) (fun c17 => ?_) (fun c17 => ?_)
        · refine zk_iconst (v := 0) hX dX1_isCell_24 (by decide) ?_
          refine zk_zret hX hE rfl ⟨rfl, rfl⟩ dX1_isCell_25 rfl ⟨_, rfl, ?_⟩
          exact ⟨by first | exact zb_t' (by grind) | exact zb_f' (by grind), rfl⟩
        · refine zk_iconst (v := 1) hX dX1_isCell_20 (by decide) ?_
          refine zk_goto (tgt := 25) hX dX1_isCell_21 (by decide) ?_
          refine zk_zret hX hE rfl ⟨rfl, rfl⟩ dX1_isCell_25 rfl ⟨_, rfl, ?_⟩
          exact ⟨by first | exact zb_t' (by grind) | exact zb_f' (by grind), rfl⟩
/-- line y of a set -/
def zline (S : zS) (y : Nat) : Nat := zbits (fun x => S (12 * y + x)) 12
theorem zline_top {S : zS} {y : Nat} (hy : y < 5) : (zbits S 60 >>> (12 * y)) % 4096 = zline S y := by
  refine zbits_of (Nat.mod_lt _ (by decide)) (fun i hi => ?_)
  rw [show (4096 : Nat) = 2 ^ 12 from rfl, Nat.testBit_mod_two_pow, Nat.testBit_shiftRight, zbits_bit]
  have : 12 * y + i < 60 := by omega
  simp [hi, this]
theorem zi4095 (a : Nat) : (lN a).toInt32 &&& 4095 = nI (a % 4096) := by
  rw [lN_i, show (4095 : Int32) = nI 4095 from rfl, nI_and, show (4095 : Nat) = 2 ^ 12 - 1 from rfl, Nat.and_two_pow_sub_one_eq_mod]
theorem zLo_top {S : zS} {y : Nat} (hy : y < 10) (h5 : 5 ≤ y) : zline (fun i => S (60 + i)) (y - 5) = zline S y := by
  refine zbits_c (fun i hi => ?_)
  show S (60 + (12 * (y - 5) + i)) = S (12 * y + i)
  rw [show 60 + (12 * (y - 5) + i) = 12 * y + i by omega]
theorem s_X1_line {G : zG} {w : zW} {k : Nat} {S : zS} (hC : zCe k) (h : zHas w k S) {y : Nat} (hy : y < 10) : zEi G mX1_line [.ref k, .int (nI y)] w (nI (zline S y)) w := by
  refine zC_of (lo := [_, _, _, _]) kcX1_line (Nat.le_of_ble_eq_true rfl) rfl (fun X hX hE => ?_)
  refine zk_iload_n hX dX1_line_0 rfl ?_
  refine zk_if_lt (tgt := 10) hX dX1_line_1 (by decide) (fun c1 => ?_) (fun c1 => ?_)
  · exact absurd c1 (nI_pos (by omega))
  refine zk_iload_n hX dX1_line_4 rfl ?_
  refine zk_bipush (v := 10) hX dX1_line_5 (by decide) ?_
  refine zk_icmp_lt (tgt := 12) hX dX1_line_7 (by decide) (fun c7 => ?_) (fun c7 => ?_)
  rotate_left
  · exact absurd (nI_lt hy (by omega)) c7
  refine zk_iload_n hX dX1_line_12 rfl ?_
  refine zk_iconst (v := 5) hX dX1_line_13 (by decide) ?_
  refine zk_icmp_ge (tgt := 29) hX dX1_line_14 (by decide) (fun c14 => ?_) (fun c14 => ?_)
  · refine zk_aload_n hX dX1_line_29 rfl ?_
    refine zk_getL hX dX1_line_30 flX1_15 hC.1 hC.2 ?_
    refine zk_bipush (v := 12) hX dX1_line_33 (by decide) ?_
    refine zk_iload_n hX dX1_line_35 rfl ?_
    refine zk_iconst (v := 5) hX dX1_line_36 (by decide) ?_
    refine zk_isub hX dX1_line_37 ?_
    refine zk_imul hX dX1_line_38 ?_
    have hy5 : 5 ≤ y := nI_leD (a := 5) c14
    rw [h.2, show (12 : Int32) = nI 12 from rfl, show (5 : Int32) = nI 5 from rfl, nI_sub hy5, nI_mul]
    unfold zLo
    refine zk_lushr hX dX1_line_39 ?_
    try rw [lN_ushr (zp64 (zbits_lt _ _)) (by omega)]
    refine zk_lstore_n (lo' := [_, _, _, _]) hX dX1_line_40 (Nat.le_of_ble_eq_true rfl) rfl rfl ?_
    refine zk_lload_n hX dX1_line_41 rfl ?_
    refine zk_l2i hX dX1_line_42 ?_
    refine zk_sipush (v := 4095) hX dX1_line_43 (by decide) ?_
    refine zk_iand hX dX1_line_46 ?_
    refine zk_iret hX hE rfl ⟨rfl, rfl⟩ dX1_line_47 ⟨_, rfl, ?_⟩
    rw [zi4095]
    first | rw [zline_top (nI_ltD (a := 5) c14)] | rw [zline_top (by omega), zLo_top hy (nI_leD (a := 5) c14)]
    exact ⟨rfl, rfl⟩
  · refine zk_aload_n hX dX1_line_17 rfl ?_
    refine zk_getL hX dX1_line_18 flX1_9 hC.1 hC.2 ?_
    refine zk_bipush (v := 12) hX dX1_line_21 (by decide) ?_
    refine zk_iload_n hX dX1_line_23 rfl ?_
    have hy5 : y < 5 := nI_ltD (a := 5) c14
    rw [h.1]
    unfold zT
    refine zk_imul hX dX1_line_24 ?_
    rw [show (12 : Int32) = nI 12 from rfl, nI_mul]
    refine zk_lushr hX dX1_line_25 ?_
    rw [lN_ushr (zp64 (zbits_lt _ _)) (by omega)]
    refine zk_goto (tgt := 40) hX dX1_line_26 (by decide) ?_
    try rw [lN_ushr (zp64 (zbits_lt _ _)) (by omega)]
    refine zk_lstore_n (lo' := [_, _, _, _]) hX dX1_line_40 (Nat.le_of_ble_eq_true rfl) rfl rfl ?_
    refine zk_lload_n hX dX1_line_41 rfl ?_
    refine zk_l2i hX dX1_line_42 ?_
    refine zk_sipush (v := 4095) hX dX1_line_43 (by decide) ?_
    refine zk_iand hX dX1_line_46 ?_
    refine zk_iret hX hE rfl ⟨rfl, rfl⟩ dX1_line_47 ⟨_, rfl, ?_⟩
    rw [zi4095]
    first | rw [zline_top (nI_ltD (a := 5) c14)] | rw [zline_top (by omega), zLo_top hy (nI_leD (a := 5) c14)]
    exact ⟨rfl, rfl⟩
def zaddl (S : zS) (y : Int32) (b : Nat) : zS := fun c => S c || (decide (y = nI (c / 12)) && b.testBit (c % 12))
theorem zsetS_c {w : zW} {k : Nat} {S T : zS} (h : ∀ c, c < 120 → S c = T c) : zsetS w k S = zsetS w k T := by
  have := zTL_eq.mpr h
  unfold zsetS
  rw [this.1, this.2]
theorem zsl_same {w : zW} {k i : Nat} {v : Int64} (h : w.2.1 k i = v) : zsl w k i v = w := by
  unfold zsl
  refine Prod.ext rfl (Prod.ext ?_ rfl)
  funext a j
  show (if a = k ∧ j = i then v else w.2.1 a j) = w.2.1 a j
  split
  · rename_i q
    rw [q.1, q.2, h]
  · rfl
theorem zsetS_id {w : zW} {k : Nat} {S : zS} (h : zHas w k S) : zsetS w k S = w := by
  unfold zsetS
  rw [zsl_same h.1, zsl_same h.2]
theorem zadd_bits {P : Nat → Bool} {y b : Nat} (hy : y < 5) : zbits P 60 ||| ((b % 4096) <<< (12 * y)) = zbits (fun c => P c || (decide (y = c / 12) && b.testBit (c % 12))) 60 := by
  refine zbits_of (Nat.or_lt_two_pow (zbits_lt _ _) ?_) (fun i hi => ?_)
  · have h1 : b % 4096 < 4096 := Nat.mod_lt _ (by decide)
    have h2 : 2 ^ (12 * y) ≤ 2 ^ 48 := Nat.pow_le_pow_right (by decide) (by omega)
    rw [Nat.shiftLeft_eq]
    calc b % 4096 * 2 ^ (12 * y) < 4096 * 2 ^ (12 * y) := Nat.mul_lt_mul_of_pos_right h1 (Nat.two_pow_pos _)
      _ ≤ 4096 * 2 ^ 48 := Nat.mul_le_mul_left _ h2
      _ = 2 ^ 60 := by decide
  · rw [Nat.testBit_or, zbits_bit, Nat.testBit_shiftLeft, show (4096 : Nat) = 2 ^ 12 from rfl, Nat.testBit_mod_two_pow]
    simp only [hi, decide_true, Bool.true_and]
    congr 1
    by_cases q : y = i / 12
    · have h1 : i ≥ 12 * y := by omega
      have h2 : i - 12 * y = i % 12 := by omega
      have h3 : i % 12 < 12 := Nat.mod_lt _ (by decide)
      rw [h2]
      simp [q, h3]
      omega
    · simp only [q, decide_false, Bool.false_and]
      by_cases h1 : i ≥ 12 * y
      · have h2 : ¬ i - 12 * y < 12 := by omega
        simp [h2]
      · simp [h1]
theorem nI_and4095 (b : Nat) : nI b &&& 4095 = nI (b % 4096) := by
  rw [show (4095 : Int32) = nI 4095 from rfl, nI_and, show (4095 : Nat) = 2 ^ 12 - 1 from rfl, Nat.and_two_pow_sub_one_eq_mod]
theorem nI_and4095l (b : Nat) : (nI b &&& 4095).toInt64 = lN (b % 4096) := by
  rw [nI_and4095, nI_l (by omega)]
theorem zaddl_nat {S : zS} {j b : Nat} (hj : j < 10) {c : Nat} (hc : c < 120) : zaddl S (nI j) b c = (S c || decide (j = c / 12) && b.testBit (c % 12)) := by
  unfold zaddl
  rw [decide_eq_decide.mpr (nI_eq (by omega) (by omega))]
theorem zset_top {w : zW} {k : Nat} {S T : zS} (h : zHas w k S) (e : ∀ c, c < 60 → T (60 + c) = S (60 + c)) : zsetS w k T = zsl w k 0 (zT T) := by
  unfold zsetS
  refine zsl_same ?_
  rw [zsl_o (by omega), h.2]
  exact (zLo_eq.mpr e).symm
theorem zset_low {w : zW} {k : Nat} {S T : zS} (h : zHas w k S) (e : ∀ c, c < 60 → T c = S c) : zsetS w k T = zsl w k 1 (zLo T) := by
  unfold zsetS
  rw [zsl_same (w := w)]
  rw [h.1]
  exact (zT_eq.mpr e).symm
theorem s_X1_addLine {G : zG} {w : zW} {k : Nat} {S : zS} (hC : zCe k) (h : zHas w k S) (y : Int32) (b : Nat) : zEv G mX1_addLine [.ref k, .int y, .int (nI b)] w (zsetS w k (zaddl S y b)) := by
  have out : ¬ (0 ≤ y ∧ y < 10) → w = zsetS w k (zaddl S y b) := by
    intro q
    rw [zsetS_c (T := S) ?_, zsetS_id h]
    intro c hc
    unfold zaddl
    have : ¬ y = nI (c / 12) := by
      intro e
      exact q (by rw [e]; exact zb10 (by omega))
    simp [this]
  refine zC_of (lo := [_, _, _]) kcX1_addLine (Nat.le_of_ble_eq_true rfl) rfl (fun X hX hE => ?_)
  refine zk_iload_n hX dX1_addLine_0 rfl ?_
  refine zk_if_lt (tgt := 10) hX dX1_addLine_1 (by decide) (fun c1 => ?_) (fun c1 => ?_)
  · refine zk_vret hX hE rfl ⟨rfl, rfl⟩ dX1_addLine_10 ⟨rfl, ?_⟩
    exact out (by grind)
  · refine zk_iload_n hX dX1_addLine_4 rfl ?_
    refine zk_bipush (v := 10) hX dX1_addLine_5 (by decide) ?_
    refine zk_icmp_lt (tgt := 11) hX dX1_addLine_7 (by decide) (fun c7 => ?_) (fun c7 => ?_)
    · obtain ⟨j, hj, rfl⟩ := znat (n := 10) (by decide) (by grind) c7
      refine zk_iload_n hX dX1_addLine_11 rfl ?_
      refine zk_iconst (v := 5) hX dX1_addLine_12 (by decide) ?_
      refine zk_icmp_ge (tgt := 39) hX dX1_addLine_13 (by decide) (fun c13 => ?_) (fun c13 => ?_)
      · refine zk_aload_n hX dX1_addLine_39 rfl ?_
        refine zk_dup hX dX1_addLine_40 rfl ?_
        refine zk_getL hX dX1_addLine_41 flX1_15 hC.1 hC.2 ?_
        refine zk_iload_n hX dX1_addLine_44 rfl ?_
        refine zk_sipush (v := 4095) hX dX1_addLine_45 (by decide) ?_
        refine zk_iand hX dX1_addLine_48 ?_
        refine zk_i2l hX dX1_addLine_49 ?_
        refine zk_bipush (v := 12) hX dX1_addLine_50 (by decide) ?_
        refine zk_iload_n hX dX1_addLine_52 rfl ?_
        refine zk_iconst (v := 5) hX dX1_addLine_53 (by decide) ?_
        refine zk_isub hX dX1_addLine_54 ?_
        refine zk_imul hX dX1_addLine_55 ?_
        refine zk_lshl hX dX1_addLine_56 ?_
        refine zk_lor hX dX1_addLine_57 ?_
        have hj5 : 5 ≤ j := nI_leD (a := 5) c13
        rw [h.2, nI_and4095l, show (12 : Int32) = nI 12 from rfl, show (5 : Int32) = nI 5 from rfl, nI_sub hj5, nI_mul, lN_shl _ (by omega)]
        unfold zLo
        rw [lN_or, zadd_bits (by omega)]
        refine zk_putL hX dX1_addLine_58 plX1_15 (fun h => by cases h) hC.1 hC.2 ?_
        refine zk_vret hX hE rfl ⟨rfl, rfl⟩ dX1_addLine_61 ⟨rfl, ?_⟩
        first
        | (have q5 : j < 5 := hj5
           rw [zset_top h (fun c hc => by rw [zaddl_nat hj (by omega)]; have q : ¬ j = (60 + c) / 12 := by omega
                                          simp [q])]
           unfold zT
           rw [zbits_c (fun c hc => zaddl_nat hj (by omega))])
        | (have q5 : 5 ≤ j := hj5
           rw [zset_low h (fun c hc => by rw [zaddl_nat hj (by omega)]; have q : ¬ j = c / 12 := by omega
                                          simp [q])]
           unfold zLo
           rw [zbits_c (fun c hc => (zaddl_nat hj (by omega)).trans (by rw [show (60 + c) / 12 = c / 12 + 5 by omega, show (60 + c) % 12 = c % 12 by omega, decide_eq_decide.mpr (show j = c / 12 + 5 ↔ j - 5 = c / 12 by omega)]))])
      · refine zk_aload_n hX dX1_addLine_16 rfl ?_
        refine zk_dup hX dX1_addLine_17 rfl ?_
        refine zk_getL hX dX1_addLine_18 flX1_9 hC.1 hC.2 ?_
        refine zk_iload_n hX dX1_addLine_21 rfl ?_
        refine zk_sipush (v := 4095) hX dX1_addLine_22 (by decide) ?_
        refine zk_iand hX dX1_addLine_25 ?_
        refine zk_i2l hX dX1_addLine_26 ?_
        refine zk_bipush (v := 12) hX dX1_addLine_27 (by decide) ?_
        refine zk_iload_n hX dX1_addLine_29 rfl ?_
        refine zk_imul hX dX1_addLine_30 ?_
        refine zk_lshl hX dX1_addLine_31 ?_
        refine zk_lor hX dX1_addLine_32 ?_
        have hj5 : j < 5 := nI_ltD (a := 5) c13
        rw [h.1, nI_and4095l, show (12 : Int32) = nI 12 from rfl, nI_mul, lN_shl _ (by omega)]
        unfold zT
        rw [lN_or, zadd_bits hj5]
        refine zk_putL hX dX1_addLine_33 plX1_9 (fun h => by cases h) hC.1 hC.2 ?_
        refine zk_goto (tgt := 61) hX dX1_addLine_36 (by decide) ?_
        refine zk_vret hX hE rfl ⟨rfl, rfl⟩ dX1_addLine_61 ⟨rfl, ?_⟩
        first
        | (have q5 : j < 5 := hj5
           rw [zset_top h (fun c hc => by rw [zaddl_nat hj (by omega)]; have q : ¬ j = (60 + c) / 12 := by omega
                                          simp [q])]
           unfold zT
           rw [zbits_c (fun c hc => zaddl_nat hj (by omega))])
        | (have q5 : 5 ≤ j := hj5
           rw [zset_low h (fun c hc => by rw [zaddl_nat hj (by omega)]; have q : ¬ j = c / 12 := by omega
                                          simp [q])]
           unfold zLo
           rw [zbits_c (fun c hc => (zaddl_nat hj (by omega)).trans (by rw [show (60 + c) / 12 = c / 12 + 5 by omega, show (60 + c) % 12 = c % 12 by omega, decide_eq_decide.mpr (show j = c / 12 + 5 ↔ j - 5 = c / 12 by omega)]))])
    · refine zk_vret hX hE rfl ⟨rfl, rfl⟩ dX1_addLine_10 ⟨rfl, ?_⟩
      exact out (by grind)

/-- whether a cell is new -/
def zput (S : zS) (a : Nat) : zS := fun c => S c || decide (c = a)
theorem zaddl_one {S : zS} {x y c : Nat} (hx : x < 12) (hy : y < 10) (hc : c < 120) : zaddl S (nI y) (1 <<< x) c = zput S (12 * y + x) c := by
  rw [zaddl_nat hy hc, Nat.one_shiftLeft, Nat.testBit_two_pow]
  unfold zput
  congr 1
  by_cases q : c = 12 * y + x
  · have h1 : y = c / 12 := by omega
    have h2 : x = c % 12 := by omega
    simp [q]
    omega
  · rw [decide_eq_false q]
    by_cases h1 : y = c / 12
    · have h2 : ¬ x = c % 12 := by omega
      simp [h2]
    · simp [h1]
theorem zput_new {S : zS} {a : Nat} (ha : a < 120) : (zT (zput S a) = zT S ∧ zLo (zput S a) = zLo S) ↔ S a = true := by
  rw [zTL_eq]
  unfold zput
  constructor
  · intro h
    have := h a ha
    simpa using this
  · intro h c hc
    by_cases q : c = a
    · subst q; simp [h]
    · simp [q]
theorem s_X1_addNew {G : zG} {w : zW} {k : Nat} {S : zS} (hC : zCe k) (h : zHas w k S) {x y : Nat} (hx : x < 12) (hy : y < 10) : zEi G mX1_addNew [.ref k, .int (nI x), .int (nI y)] w (zb (¬ S (12 * y + x) = true)) (zsetS w k (zput S (12 * y + x))) := by
  have e : zsetS w k (zaddl S (nI y) (1 <<< x)) = zsetS w k (zput S (12 * y + x)) := zsetS_c (fun c hc => zaddl_one hx hy hc)
  have hn := zput_new (S := S) (a := 12 * y + x) (by omega)
  refine zC_of (lo := [_, _, _, _, _, _, _]) kcX1_addNew (Nat.le_of_ble_eq_true rfl) rfl (fun X hX hE => ?_)
  refine zk_iload_n hX dX1_addNew_0 rfl ?_
  refine zk_iload_n hX dX1_addNew_1 rfl ?_
  refine zk_S2i hX dX1_addNew_2 kcX1_isCell mlX1_26 smX1_isCell rfl (s_X1_isCell _ _) (Nat.le_of_ble_eq_true rfl) rfl ?_
  refine zk_if_neB (tgt := 10) hX dX1_addNew_5 (by decide) (fun c5 => ?_) (fun c5 => ?_)
  rotate_left
  · exact absurd ⟨zrlt hx, zrlt hy⟩ c5
  refine zk_aload_n hX dX1_addNew_10 rfl ?_
  refine zk_getL hX dX1_addNew_11 flX1_9 hC.1 hC.2 ?_
  refine zk_lstore_n (lo' := [_, _, _, _, _, _, _]) hX dX1_addNew_14 (Nat.le_of_ble_eq_true rfl) rfl rfl ?_
  refine zk_aload_n hX dX1_addNew_15 rfl ?_
  refine zk_getL hX dX1_addNew_16 flX1_15 hC.1 hC.2 ?_
  refine zk_lstore (lo' := [_, _, _, _, _, _, _]) hX dX1_addNew_19 (Nat.le_of_ble_eq_true rfl) rfl rfl ?_
  refine zk_aload_n hX dX1_addNew_21 rfl ?_
  refine zk_iload_n hX dX1_addNew_22 rfl ?_
  refine zk_iconst (v := 1) hX dX1_addNew_23 (by decide) ?_
  refine zk_iload_n hX dX1_addNew_24 rfl ?_
  refine zk_ishl hX dX1_addNew_25 ?_
  rw [show (1 : Int32) = nI 1 from rfl, nI_shl _ (by omega)]
  refine zk_V2v hX dX1_addNew_26 kcX1_addLine mlX1_30 viX1_addLine rfl hC.1 hC.2 (s_X1_addLine hC h _ _) (Nat.le_of_ble_eq_true rfl) rfl ?_
  rw [e]
  refine zk_aload_n hX dX1_addNew_29 rfl ?_
  refine zk_getL hX dX1_addNew_30 flX1_9 hC.1 hC.2 ?_
  refine zk_lload_n hX dX1_addNew_33 rfl ?_
  rw [zsetS_has.1, h.1]
  refine zk_lcmp hX dX1_addNew_34 ?_
  refine zk_if_ne (tgt := 48) hX dX1_addNew_35 (by decide) (fun c35 => ?_) (fun c35 => ?_)
  · refine zk_iconst (v := 1) hX dX1_addNew_48 (by decide) ?_
    refine zk_goto (tgt := 53) hX dX1_addNew_49 (by decide) ?_
    refine zk_zret hX hE rfl ⟨rfl, rfl⟩ dX1_addNew_53 rfl ⟨_, rfl, ?_⟩
    refine ⟨?_, rfl⟩
    simp only [lg_cmp_eq, ne_eq] at *
    first | exact zb_t' (fun q => by have := hn.mpr q; grind) | exact zb_f' (not_not_intro (hn.mp (by grind)))
  · refine zk_aload_n hX dX1_addNew_38 rfl ?_
    refine zk_getL hX dX1_addNew_39 flX1_15 hC.1 hC.2 ?_
    refine zk_lload hX dX1_addNew_42 rfl ?_
    rw [zsetS_has.2, h.2]
    refine zk_lcmp hX dX1_addNew_44 ?_
    refine zk_if_eq (tgt := 52) hX dX1_addNew_45 (by decide) (fun c45 => ?_) (fun c45 => ?_)
    · refine zk_iconst (v := 0) hX dX1_addNew_52 (by decide) ?_
      refine zk_zret hX hE rfl ⟨rfl, rfl⟩ dX1_addNew_53 rfl ⟨_, rfl, ?_⟩
      refine ⟨?_, rfl⟩
      simp only [lg_cmp_eq, ne_eq] at *
      first | exact zb_t' (fun q => by have := hn.mpr q; grind) | exact zb_f' (not_not_intro (hn.mp (by grind)))
    · refine zk_iconst (v := 1) hX dX1_addNew_48 (by decide) ?_
      refine zk_goto (tgt := 53) hX dX1_addNew_49 (by decide) ?_
      refine zk_zret hX hE rfl ⟨rfl, rfl⟩ dX1_addNew_53 rfl ⟨_, rfl, ?_⟩
      refine ⟨?_, rfl⟩
      simp only [lg_cmp_eq, ne_eq] at *
      first | exact zb_t' (fun q => by have := hn.mpr q; grind) | exact zb_f' (not_not_intro (hn.mp (by grind)))
theorem s_X1_addNew_out {G : zG} {w : zW} {k : Nat} (x y : Int32) (h : ¬ ((0 ≤ x ∧ x < 12) ∧ (0 ≤ y ∧ y < 10))) : zEi G mX1_addNew [.ref k, .int x, .int y] w 0 w := by
  refine zC_of (lo := [_, _, _, _, _, _, _]) kcX1_addNew (Nat.le_of_ble_eq_true rfl) rfl (fun X hX hE => ?_)
  refine zk_iload_n hX dX1_addNew_0 rfl ?_
  refine zk_iload_n hX dX1_addNew_1 rfl ?_
  refine zk_S2i hX dX1_addNew_2 kcX1_isCell mlX1_26 smX1_isCell rfl (s_X1_isCell _ _) (Nat.le_of_ble_eq_true rfl) rfl ?_
  refine zk_if_neB (tgt := 10) hX dX1_addNew_5 (by decide) (fun c5 => ?_) (fun c5 => ?_)
  · exact absurd c5 h
  refine zk_iconst (v := 0) hX dX1_addNew_8 (by decide) ?_
  refine zk_zret hX hE rfl ⟨rfl, rfl⟩ dX1_addNew_9 rfl ⟨_, rfl, ?_⟩
  exact ⟨rfl, rfl⟩

