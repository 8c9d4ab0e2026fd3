/-! order: the class's call -/
def j1 (x : Int32) : Int32 := x - (zush x 1 &&& 1431655765)
def j2 (x : Int32) : Int32 := (x &&& 858993459) + (zush x 2 &&& 858993459)
def j3 (x : Int32) : Int32 := (x + zush x 4) &&& 252645135
def j4 (x : Int32) : Int32 := x + zush x 8
def j5 (x : Int32) : Int32 := x + zush x 16
def jbc (x : Int32) : Int32 := j5 (j4 (j3 (j2 (j1 x)))) &&& 63
theorem jbc_ok0 : ∀ q, q < 64 → ∀ r, r < 64 → jbc (nI (64 * q + r)) = nI (zcnt (64 * q + r).testBit 12) := by decide +kernel
theorem jbc_ok {a : Nat} (h : a < 4096) : jbc (nI a) = nI (zcnt a.testBit 12) := by
  have := jbc_ok0 (a / 64) (by omega) (a % 64) (by omega)
  rw [show 64 * (a / 64) + a % 64 = a by omega] at this
  exact this
theorem s_J6_bitCount {G : zG} {w : zW} {a : Nat} (h : a < 4096) : zEi G mJ6_bitCount_0f7a4 [.int (nI a)] w (nI (zcnt a.testBit 12)) w := by
  have e := jbc_ok h
  refine zC_of (lo := [_]) kcJ6_bitCount_0f7a4 (Nat.le_of_ble_eq_true rfl) rfl (fun X hX hE => ?_)
  refine zk_iload_n hX dJ6_bitCount_0f7a4_0 rfl ?_
  refine zk_iload_n hX dJ6_bitCount_0f7a4_1 rfl ?_
  refine zk_iconst (v := 1) hX dJ6_bitCount_0f7a4_2 (by decide) ?_
  refine zk_iushr hX dJ6_bitCount_0f7a4_3 ?_
  refine zk_ldcw hX dJ6_bitCount_0f7a4_4 cnJ6_265 ?_
  refine zk_iand hX dJ6_bitCount_0f7a4_7 ?_
  refine zk_isub hX dJ6_bitCount_0f7a4_8 ?_
  refine zk_istore_n (lo' := [_]) hX dJ6_bitCount_0f7a4_9 (Nat.le_of_ble_eq_true rfl) rfl rfl ?_
  refine zk_iload_n hX dJ6_bitCount_0f7a4_10 rfl ?_
  refine zk_ldcw hX dJ6_bitCount_0f7a4_11 cnJ6_266 ?_
  refine zk_iand hX dJ6_bitCount_0f7a4_14 ?_
  refine zk_iload_n hX dJ6_bitCount_0f7a4_15 rfl ?_
  refine zk_iconst (v := 2) hX dJ6_bitCount_0f7a4_16 (by decide) ?_
  refine zk_iushr hX dJ6_bitCount_0f7a4_17 ?_
  refine zk_ldcw hX dJ6_bitCount_0f7a4_18 cnJ6_266 ?_
  refine zk_iand hX dJ6_bitCount_0f7a4_21 ?_
  refine zk_iadd hX dJ6_bitCount_0f7a4_22 ?_
  refine zk_istore_n (lo' := [_]) hX dJ6_bitCount_0f7a4_23 (Nat.le_of_ble_eq_true rfl) rfl rfl ?_
  refine zk_iload_n hX dJ6_bitCount_0f7a4_24 rfl ?_
  refine zk_iload_n hX dJ6_bitCount_0f7a4_25 rfl ?_
  refine zk_iconst (v := 4) hX dJ6_bitCount_0f7a4_26 (by decide) ?_
  refine zk_iushr hX dJ6_bitCount_0f7a4_27 ?_
  refine zk_iadd hX dJ6_bitCount_0f7a4_28 ?_
  refine zk_ldcw hX dJ6_bitCount_0f7a4_29 cnJ6_267 ?_
  refine zk_iand hX dJ6_bitCount_0f7a4_32 ?_
  refine zk_istore_n (lo' := [_]) hX dJ6_bitCount_0f7a4_33 (Nat.le_of_ble_eq_true rfl) rfl rfl ?_
  refine zk_iload_n hX dJ6_bitCount_0f7a4_34 rfl ?_
  refine zk_iload_n hX dJ6_bitCount_0f7a4_35 rfl ?_
  refine zk_bipush (v := 8) hX dJ6_bitCount_0f7a4_36 (by decide) ?_
  refine zk_iushr hX dJ6_bitCount_0f7a4_38 ?_
  refine zk_iadd hX dJ6_bitCount_0f7a4_39 ?_
  refine zk_istore_n (lo' := [_]) hX dJ6_bitCount_0f7a4_40 (Nat.le_of_ble_eq_true rfl) rfl rfl ?_
  refine zk_iload_n hX dJ6_bitCount_0f7a4_41 rfl ?_
  refine zk_iload_n hX dJ6_bitCount_0f7a4_42 rfl ?_
  refine zk_bipush (v := 16) hX dJ6_bitCount_0f7a4_43 (by decide) ?_
  refine zk_iushr hX dJ6_bitCount_0f7a4_45 ?_
  refine zk_iadd hX dJ6_bitCount_0f7a4_46 ?_
  refine zk_istore_n (lo' := [_]) hX dJ6_bitCount_0f7a4_47 (Nat.le_of_ble_eq_true rfl) rfl rfl ?_
  refine zk_iload_n hX dJ6_bitCount_0f7a4_48 rfl ?_
  refine zk_bipush (v := 63) hX dJ6_bitCount_0f7a4_49 (by decide) ?_
  refine zk_iand hX dJ6_bitCount_0f7a4_51 ?_
  refine zk_iret hX hE rfl ⟨rfl, rfl⟩ dJ6_bitCount_0f7a4_52 ⟨_, rfl, ?_⟩
  exact ⟨e, rfl⟩
theorem s_X10_beginOrder {G : zG} {w : zW} : zEv G mX10_beginOrder [.ref 147] w (zsi w 147 3 0) := by
  refine zC_of (lo := [_]) kcX10_beginOrder (Nat.le_of_ble_eq_true rfl) rfl (fun X hX hE => ?_)
  refine zk_aload_n hX dX10_beginOrder_0 rfl ?_
  refine zk_iconst (v := 0) hX dX10_beginOrder_1 (by decide) ?_
  refine zk_putI hX dX10_beginOrder_2 plX10_72 (fun h => by cases h) k_147 z_147 rfl rfl ?_
  refine zk_vret hX hE rfl ⟨rfl, rfl⟩ dX10_beginOrder_5 ⟨rfl, ?_⟩
  rfl
def zadds (w : zW) (k : Nat) (p c : Int32) : zW := zsi (zsi (zsi w 150 k p) 151 k c) 147 3 (nI (k + 1))
theorem s_X10_addStop {G : zG} {w : zW} {k : Nat} (hw : zWf w) (hk : k < 8) (h : w.1 147 3 = nI k) (p c : Int32) : zEv G mX10_addStop [.ref 147, .int p, .int c] w (zadds w k p c) := by
  have hw1 : zWf (zsi w 150 k p) := zWf_i hw
  have hw2 : zWf (zsi (zsi w 150 k p) 151 k c) := zWf_i hw1
  have e1 : (zsi w 150 k p).1 147 3 = nI k := by rw [zsi_o (by decide)]; exact h
  have e2 : (zsi (zsi w 150 k p) 151 k c).1 147 3 = nI k := by rw [zsi_o (by decide)]; exact e1
  refine zC_of (lo := [_, _, _]) kcX10_addStop (Nat.le_of_ble_eq_true rfl) rfl (fun X hX hE => ?_)
  refine zk_aload_n hX dX10_addStop_0 rfl ?_
  refine zk_getI hX dX10_addStop_1 flX10_72 k_147 z_147 ?_
  rw [h]
  refine zk_bipush (v := 8) hX dX10_addStop_4 (by decide) ?_
  refine zk_icmp_lt (tgt := 10) hX dX10_addStop_6 (by decide) (fun c6 => ?_) (fun c6 => ?_)
  rotate_left
  · exact absurd (nI_lt (b := 8) hk (by decide)) c6
  refine zk_aload_n hX dX10_addStop_10 rfl ?_
  refine zk_getR hX dX10_addStop_11 flX10_18 k_147 z_147 (hw _ _ (by decide) |>.trans r_147_4) ?_
  refine zk_aload_n hX dX10_addStop_14 rfl ?_
  refine zk_getI hX dX10_addStop_15 flX10_72 k_147 z_147 ?_
  rw [h]
  refine zk_iload_n hX dX10_addStop_18 rfl ?_
  refine zk_iastE hX dX10_addStop_19 rfl k_150 z_150 (by first | assumption | omega) rfl ?_
  refine zk_aload_n hX dX10_addStop_20 rfl ?_
  refine zk_getR hX dX10_addStop_21 flX10_21 k_147 z_147 (hw1 _ _ (by decide) |>.trans r_147_5) ?_
  refine zk_aload_n hX dX10_addStop_24 rfl ?_
  refine zk_getI hX dX10_addStop_25 flX10_72 k_147 z_147 ?_
  rw [e1]
  refine zk_iload_n hX dX10_addStop_28 rfl ?_
  refine zk_iastE hX dX10_addStop_29 rfl k_151 z_151 (by first | assumption | omega) rfl ?_
  refine zk_aload_n hX dX10_addStop_30 rfl ?_
  refine zk_dup hX dX10_addStop_31 rfl ?_
  refine zk_getI hX dX10_addStop_32 flX10_72 k_147 z_147 ?_
  rw [e2]
  refine zk_iconst (v := 1) hX dX10_addStop_35 (by decide) ?_
  refine zk_iadd hX dX10_addStop_36 ?_
  rw [nI_1]
  refine zk_putI hX dX10_addStop_37 plX10_72 (fun h => by cases h) k_147 z_147 rfl rfl ?_
  refine zk_vret hX hE rfl ⟨rfl, rfl⟩ dX10_addStop_40 ⟨rfl, ?_⟩
  rfl
/-- the stops of a set, in their order -/
def oSel (a : Nat) : Nat → Nat → Nat
  | 0, _ => 0
  | p + 1, i => if a.testBit p = true ∧ i = zcnt a.testBit p then p else oSel a p i
theorem oSel_t {a p i : Nat} (h : a.testBit p = true) : oSel a (p + 1) i = if i = zcnt a.testBit p then p else oSel a p i := by
  show (if a.testBit p = true ∧ i = zcnt a.testBit p then p else oSel a p i) = _
  by_cases q : i = zcnt a.testBit p
  · rw [if_pos ⟨h, q⟩, if_pos q]
  · rw [if_neg (fun z => q z.2), if_neg q]
theorem oSel_f {a p i : Nat} (h : ¬ a.testBit p = true) : oSel a (p + 1) i = oSel a p i := if_neg (fun z => h z.1)
theorem oSel_ok {a : Nat} : ∀ {n i : Nat}, i < zcnt a.testBit n → oSel a n i < n ∧ a.testBit (oSel a n i) = true
  | 0, _, h => absurd h (by show ¬ _ < 0; omega)
  | n + 1, i, h => by
    by_cases q : a.testBit n = true
    · rw [oSel_t q]
      rw [zcnt_t q] at h
      by_cases e : i = zcnt a.testBit n
      · rw [if_pos e]
        exact ⟨by omega, q⟩
      · rw [if_neg e]
        obtain ⟨h1, h2⟩ := oSel_ok (a := a) (n := n) (i := i) (by omega)
        exact ⟨by omega, h2⟩
    · rw [oSel_f q]
      rw [zcnt_f q] at h
      obtain ⟨h1, h2⟩ := oSel_ok (a := a) (n := n) (i := i) h
      exact ⟨by omega, h2⟩
theorem zcnt_up {P : Nat → Bool} {i n : Nat} (h : i ≤ n) : zcnt P i ≤ zcnt P n := by
  induction h with
  | refl => exact Nat.le_refl _
  | step h ih =>
    rename_i m
    have : zcnt P (m + 1) = zcnt P m + if P m = true then 1 else 0 := zcnt_s
    show _ ≤ zcnt P (m + 1)
    rw [this]
    split <;> omega
theorem zcnt_hi {a n : Nat} (h : a < 2 ^ n) (hn : n ≤ 12) : zcnt a.testBit 12 = zcnt a.testBit n := by
  obtain ⟨m, hm⟩ : ∃ m, 12 = n + m := ⟨12 - n, by omega⟩
  rw [hm, zcnt_add]
  have : zcnt (fun i => a.testBit (n + i)) m = 0 := zcnt_0.mpr (fun i _ => by
    rw [Nat.testBit_lt_two_pow (Nat.lt_of_lt_of_le h (Nat.pow_le_pow_right (by decide) (by omega)))]
    decide)
  omega
theorem s_X11_order_b1 {G : zG} {w : zW} {n : Nat} (hw : zWf w) (hn : n ≤ 12) (hP : w.1 0 10 = nI n) (v r : Int32) (h : ¬ (1 ≤ v ∧ v < nI (2 ^ n))) : zEi G mX11_order [.ref 0, .int v, .int r] w (-1) w := by
  by_cases q : v < 1
  · skip
    refine zC_of (lo := [_, _, _, _, _]) kcX11_order (Nat.le_of_ble_eq_true rfl) rfl (fun X hX hE => ?_)
    refine zk_iload_n hX dX11_order_0 rfl ?_
    refine zk_iconst (v := 1) hX dX11_order_1 (by decide) ?_
    refine zk_icmp_lt (tgt := 31) hX dX11_order_2 (by decide) (fun c2 => ?_) (fun c2 => ?_)
    rotate_left
    · exact absurd q c2
    refine zk_iconst (v := -1) hX dX11_order_31 (by decide) ?_
    refine zk_iret hX hE rfl ⟨rfl, rfl⟩ dX11_order_32 ⟨_, rfl, ?_⟩
    exact ⟨rfl, rfl⟩
  · have q2 : nI (2 ^ n) ≤ v := Int32.not_lt.mp (fun z => h ⟨Int32.not_lt.mp q, z⟩)
    rw [← Nat.one_shiftLeft] at q2
    refine zC_of (lo := [_, _, _, _, _]) kcX11_order (Nat.le_of_ble_eq_true rfl) rfl (fun X hX hE => ?_)
    refine zk_iload_n hX dX11_order_0 rfl ?_
    refine zk_iconst (v := 1) hX dX11_order_1 (by decide) ?_
    refine zk_icmp_lt (tgt := 31) hX dX11_order_2 (by decide) (fun c2 => ?_) (fun c2 => ?_)
    · exact absurd c2 q
    refine zk_iload_n hX dX11_order_5 rfl ?_
    refine zk_iconst (v := 1) hX dX11_order_6 (by decide) ?_
    refine zk_aload_n hX dX11_order_7 rfl ?_
    refine zk_getI hX dX11_order_8 flX11_213 k_0 z_0 ?_
    rw [hP, show (1 : Int32) = nI 1 from rfl]
    refine zk_ishl hX dX11_order_11 ?_
    rw [nI_shl _ (by omega)]
    refine zk_icmp_ge (tgt := 31) hX dX11_order_12 (by decide) (fun c12 => ?_) (fun c12 => ?_)
    rotate_left
    · exact absurd q2 c12
    refine zk_iconst (v := -1) hX dX11_order_31 (by decide) ?_
    refine zk_iret hX hE rfl ⟨rfl, rfl⟩ dX11_order_32 ⟨_, rfl, ?_⟩
    exact ⟨rfl, rfl⟩
theorem s_X11_order_pre {G : zG} {X : zX} {w : zW} {n a : Nat} (r : Int32) (hX : zH G X mX11_order) (hw : zWf w) (hn : n ≤ 12) (hP : w.1 0 10 = nI n) (ha : 1 ≤ a) (ha2 : a < 2 ^ n) (k1 : 8 < zcnt a.testBit n → zk0 G X mX11_order 31 [.ref 0, .int (nI a), .int r, .null, .null] [] w) (k2 : zcnt a.testBit n ≤ 8 → zk0 G X mX11_order 24 [.ref 0, .int (nI a), .int r, .null, .null] [] w) : zk0 G X mX11_order 0 [.ref 0, .int (nI a), .int r, .null, .null] [] w := by
  have h12 : 2 ^ n ≤ 2 ^ 12 := Nat.pow_le_pow_right (by decide) hn
  have hc := zcnt_le a.testBit n
  refine zk_iload_n hX dX11_order_0 rfl ?_
  refine zk_iconst (v := 1) hX dX11_order_1 (by decide) ?_
  refine zk_icmp_lt (tgt := 31) hX dX11_order_2 (by decide) (fun c2 => ?_) (fun c2 => ?_)
  · exact absurd c2 (nI_nlt (b := 1) (by omega) (by omega))
  refine zk_iload_n hX dX11_order_5 rfl ?_
  refine zk_iconst (v := 1) hX dX11_order_6 (by decide) ?_
  refine zk_aload_n hX dX11_order_7 rfl ?_
  refine zk_getI hX dX11_order_8 flX11_213 k_0 z_0 ?_
  rw [hP, show (1 : Int32) = nI 1 from rfl]
  refine zk_ishl hX dX11_order_11 ?_
  rw [nI_shl _ (by omega), Nat.one_shiftLeft]
  refine zk_icmp_ge (tgt := 31) hX dX11_order_12 (by decide) (fun c12 => ?_) (fun c12 => ?_)
  · exact absurd c12 (nI_ge (by omega) (by omega))
  refine zk_iload_n hX dX11_order_15 rfl ?_
  refine zk_S1i hX dX11_order_16 kcJ6_bitCount_0f7a4 mlX11_368 smJ6_bitCount_0f7a4 rfl (s_J6_bitCount (by omega)) (Nat.le_of_ble_eq_true rfl) rfl ?_
  rw [zcnt_hi ha2 hn]
  refine zk_bipush (v := 8) hX dX11_order_19 (by decide) ?_
  refine zk_icmp_gt (tgt := 31) hX dX11_order_21 (by decide) (fun c21 => ?_) (fun c21 => ?_)
  · exact k1 (Decidable.byContradiction (fun z => nI_nlt (a := 8) (by omega) (by omega) c21))
  · exact k2 (Decidable.byContradiction (fun z => c21 (nI_lt (a := 8) (by omega) (by omega))))
theorem s_X11_order_b2 {G : zG} {w : zW} {n a : Nat} (hw : zWf w) (hn : n ≤ 12) (hP : w.1 0 10 = nI n) (ha : 1 ≤ a) (ha2 : a < 2 ^ n) (r : Int32) (h : ¬ (zcnt a.testBit n ≤ 8 ∧ 0 ≤ r ∧ r < 6)) : zEi G mX11_order [.ref 0, .int (nI a), .int r] w (-1) w := by
  refine zC_of (lo := [_, _, _, _, _]) kcX11_order (Nat.le_of_ble_eq_true rfl) rfl (fun X hX hE => ?_)
  refine s_X11_order_pre r hX hw hn hP ha ha2 (fun q => ?_) (fun q => ?_)
  · skip
    refine zk_iconst (v := -1) hX dX11_order_31 (by decide) ?_
    refine zk_iret hX hE rfl ⟨rfl, rfl⟩ dX11_order_32 ⟨_, rfl, ?_⟩
    exact ⟨rfl, rfl⟩
  · skip
    refine zk_iload_n hX dX11_order_24 rfl ?_
    refine zk_S1i hX dX11_order_25 kcX11_isRow mlX11_107 smX11_isRow rfl (s_X11_isRow _) (Nat.le_of_ble_eq_true rfl) rfl ?_
    refine zk_if_neB (tgt := 33) hX dX11_order_28 (by decide) (fun c28 => ?_) (fun c28 => ?_)
    · exact absurd c28 (fun z => h ⟨q, z⟩)
    refine zk_iconst (v := -1) hX dX11_order_31 (by decide) ?_
    refine zk_iret hX hE rfl ⟨rfl, rfl⟩ dX11_order_32 ⟨_, rfl, ?_⟩
    exact ⟨rfl, rfl⟩
/-- from the test of all stops on -/
theorem s_X11_order_held {G : zG} {X : zX} {w : zW} {n a r : Nat} (hX : zH G X mX11_order) (hw : zWf w) (hn : n ≤ 12) (hP : w.1 0 10 = nI n) (ha2 : a < 2 ^ n) (ha1 : 1 ≤ a) (h8 : zcnt a.testBit n ≤ 8) (hr : r < 6) (k : (∀ p, p < n → a.testBit p = true → zheldk (w.1 (47 + 4 * p) 3)) → ∀ i : Int32, zk0 G X mX11_order 79 [.ref 0, .int (nI a), .int (nI r), .int i, .null] [] w) (kn : ¬ (∀ p, p < n → a.testBit p = true → zheldk (w.1 (47 + 4 * p) 3)) → ∀ i : Int32, zk0 G X mX11_order 64 [.ref 0, .int (nI a), .int (nI r), .int i, .null] [] w) : zk0 G X mX11_order 0 [.ref 0, .int (nI a), .int (nI r), .null, .null] [] w := by
  have h12 : 2 ^ n ≤ 2 ^ 12 := Nat.pow_le_pow_right (by decide) hn
  have loop : ∀ m i, i + m = n → (∀ p, p < i → a.testBit p = true → zheldk (w.1 (47 + 4 * p) 3)) → zk0 G X mX11_order 35 [.ref 0, .int (nI a), .int (nI r), .int (nI i), .null] [] w := by
    intro m
    induction m with
    | zero =>
      intro i hi h
      obtain rfl : i = n := by omega
      refine zk_iload_n hX dX11_order_35 rfl ?_
      refine zk_aload_n hX dX11_order_36 rfl ?_
      refine zk_getI hX dX11_order_37 flX11_213 k_0 z_0 ?_
      refine zk_icmp_ge (tgt := 79) hX dX11_order_40 (by decide) (fun c40 => ?_) (fun c40 => ?_)
      rotate_left
      · exact absurd (by rw [hP]; exact nI_le (Nat.le_refl _) (by omega)) c40
      exact k h _
    | succ m ih =>
      intro i hi h
      have h9 : (a.testBit i = true → zheldk (w.1 (47 + 4 * i) 3)) → zk0 G X mX11_order 35 [.ref 0, .int (nI a), .int (nI r), .int (nI (i + 1)), .null] [] w := fun q => ih (i + 1) (by omega) (fun p hp hb => by
        rcases Nat.lt_succ_iff_lt_or_eq.mp hp with g | rfl
        · exact h p g hb
        · exact q hb)
      by_cases q : a.testBit i = true
      · have hb : nI (a >>> i) &&& 1 = 1 := by rw [bit1, if_pos q]
        by_cases qh : zheldk (w.1 (47 + 4 * i) 3)
        · refine zk_iload_n hX dX11_order_35 rfl ?_
          refine zk_aload_n hX dX11_order_36 rfl ?_
          refine zk_getI hX dX11_order_37 flX11_213 k_0 z_0 ?_
          refine zk_icmp_ge (tgt := 79) hX dX11_order_40 (by decide) (fun c40 => ?_) (fun c40 => ?_)
          · exact absurd c40 (by rw [hP]; exact nI_ge (by omega) (by omega))
          refine zk_iload_n hX dX11_order_43 rfl ?_
          refine zk_iload_n hX dX11_order_44 rfl ?_
          refine zk_ishr hX dX11_order_45 ?_
          rw [nI_shr (by omega) (by omega)]
          refine zk_iconst (v := 1) hX dX11_order_46 (by decide) ?_
          refine zk_iand hX dX11_order_47 ?_
          rw [hb]
          refine zk_iconst (v := 1) hX dX11_order_48 (by decide) ?_
          refine zk_icmp_ne (tgt := 73) hX dX11_order_49 (by decide) (fun c49 => ?_) (fun c49 => ?_)
          · exact absurd c49 (fun z => z rfl)
          refine zk_aload_n hX dX11_order_52 rfl ?_
          refine zk_getR hX dX11_order_53 flX11_61 k_0 z_0 (hw _ _ (by decide) |>.trans r_0_9) ?_
          refine zk_iload_n hX dX11_order_56 rfl ?_
          refine zk_poses hX hw dX11_order_57 rfl (by first | assumption | omega) ?_
          refine zk_V0i hX dX11_order_58 kcX5_isHeld mlX11_230 viX5_isHeld rfl (zPok (by first | assumption | omega)) (zPoz _ (by first | assumption | omega)).1 (s_X5_isHeld (by omega)) (Nat.le_of_ble_eq_true rfl) rfl ?_
          refine zk_if_neB (tgt := 73) hX dX11_order_61 (by decide) (fun c61 => ?_) (fun c61 => ?_)
          rotate_left
          · exact absurd qh c61
          refine zk_iinc (lo' := [_, _, _, _, _]) hX dX11_order_73 rfl (by first | exact zinc _ | exact rfl) (Nat.le_of_ble_eq_true rfl) rfl rfl ?_
          refine zk_goto (tgt := 35) hX dX11_order_76 (by decide) ?_
          exact h9 (fun _ => qh)
        · refine zk_iload_n hX dX11_order_35 rfl ?_
          refine zk_aload_n hX dX11_order_36 rfl ?_
          refine zk_getI hX dX11_order_37 flX11_213 k_0 z_0 ?_
          refine zk_icmp_ge (tgt := 79) hX dX11_order_40 (by decide) (fun c40 => ?_) (fun c40 => ?_)
          · exact absurd c40 (by rw [hP]; exact nI_ge (by omega) (by omega))
          refine zk_iload_n hX dX11_order_43 rfl ?_
          refine zk_iload_n hX dX11_order_44 rfl ?_
          refine zk_ishr hX dX11_order_45 ?_
          rw [nI_shr (by omega) (by omega)]
          refine zk_iconst (v := 1) hX dX11_order_46 (by decide) ?_
          refine zk_iand hX dX11_order_47 ?_
          rw [hb]
          refine zk_iconst (v := 1) hX dX11_order_48 (by decide) ?_
          refine zk_icmp_ne (tgt := 73) hX dX11_order_49 (by decide) (fun c49 => ?_) (fun c49 => ?_)
          · exact absurd c49 (fun z => z rfl)
          refine zk_aload_n hX dX11_order_52 rfl ?_
          refine zk_getR hX dX11_order_53 flX11_61 k_0 z_0 (hw _ _ (by decide) |>.trans r_0_9) ?_
          refine zk_iload_n hX dX11_order_56 rfl ?_
          refine zk_poses hX hw dX11_order_57 rfl (by first | assumption | omega) ?_
          refine zk_V0i hX dX11_order_58 kcX5_isHeld mlX11_230 viX5_isHeld rfl (zPok (by first | assumption | omega)) (zPoz _ (by first | assumption | omega)).1 (s_X5_isHeld (by omega)) (Nat.le_of_ble_eq_true rfl) rfl ?_
          refine zk_if_neB (tgt := 73) hX dX11_order_61 (by decide) (fun c61 => ?_) (fun c61 => ?_)
          · exact absurd c61 qh
          exact kn (fun z => qh (z i (by omega) q)) _
      · have hb : nI (a >>> i) &&& 1 = 0 := by rw [bit1, if_neg q]
        refine zk_iload_n hX dX11_order_35 rfl ?_
        refine zk_aload_n hX dX11_order_36 rfl ?_
        refine zk_getI hX dX11_order_37 flX11_213 k_0 z_0 ?_
        refine zk_icmp_ge (tgt := 79) hX dX11_order_40 (by decide) (fun c40 => ?_) (fun c40 => ?_)
        · exact absurd c40 (by rw [hP]; exact nI_ge (by omega) (by omega))
        refine zk_iload_n hX dX11_order_43 rfl ?_
        refine zk_iload_n hX dX11_order_44 rfl ?_
        refine zk_ishr hX dX11_order_45 ?_
        rw [nI_shr (by omega) (by omega)]
        refine zk_iconst (v := 1) hX dX11_order_46 (by decide) ?_
        refine zk_iand hX dX11_order_47 ?_
        rw [hb]
        refine zk_iconst (v := 1) hX dX11_order_48 (by decide) ?_
        refine zk_icmp_ne (tgt := 73) hX dX11_order_49 (by decide) (fun c49 => ?_) (fun c49 => ?_)
        rotate_left
        · exact absurd c49 (by decide)
        refine zk_iinc (lo' := [_, _, _, _, _]) hX dX11_order_73 rfl (by first | exact zinc _ | exact rfl) (Nat.le_of_ble_eq_true rfl) rfl rfl ?_
        refine zk_goto (tgt := 35) hX dX11_order_76 (by decide) ?_
        exact h9 (fun z => absurd z q)
  refine s_X11_order_pre _ hX hw hn hP ha1 ha2 (fun q => absurd q (by omega)) (fun _ => ?_)
  refine zk_iload_n hX dX11_order_24 rfl ?_
  refine zk_S1i hX dX11_order_25 kcX11_isRow mlX11_107 smX11_isRow rfl (s_X11_isRow _) (Nat.le_of_ble_eq_true rfl) rfl ?_
  refine zk_if_neB (tgt := 33) hX dX11_order_28 (by decide) (fun c28 => ?_) (fun c28 => ?_)
  rotate_left
  · exact absurd (zrlt hr) c28
  refine zk_iconst (v := 0) hX dX11_order_33 (by decide) ?_
  refine zk_istore_n (lo' := [_, _, _, _, _]) hX dX11_order_34 (Nat.le_of_ble_eq_true rfl) rfl rfl ?_
  exact loop n 0 (by omega) (fun p hp => absurd hp (by omega))
theorem s_X11_order_n {G : zG} {w : zW} {n a r : Nat} (hw : zWf w) (hn : n ≤ 12) (hP : w.1 0 10 = nI n) (ha2 : a < 2 ^ n) (ha1 : 1 ≤ a) (h8 : zcnt a.testBit n ≤ 8) (hr : r < 6) (h : ¬ ∀ p, p < n → a.testBit p = true → zheldk (w.1 (47 + 4 * p) 3)) : zEi G mX11_order [.ref 0, .int (nI a), .int (nI r)] w (-3) (zfind w 3) := by
  refine zC_of (lo := [_, _, _, _, _]) kcX11_order (Nat.le_of_ble_eq_true rfl) rfl (fun X hX hE => ?_)
  refine s_X11_order_held hX hw hn hP ha2 ha1 h8 hr (fun q => absurd q h) (fun _ i => ?_)
  refine zk_aload_n hX dX11_order_64 rfl ?_
  refine zk_getR hX dX11_order_65 flX11_12 k_0 z_0 (hw _ _ (by decide) |>.trans r_0_0) ?_
  refine zk_iconst (v := 3) hX dX11_order_68 (by decide) ?_
  refine zk_V1i hX dX11_order_69 kcX9_find mlX11_111 viX9_find rfl k_1 z_1 (s_X9_find hw _ (by decide)) (Nat.le_of_ble_eq_true rfl) rfl ?_
  refine zk_iret hX hE rfl ⟨rfl, rfl⟩ dX11_order_72 ⟨_, rfl, ?_⟩
  exact ⟨rfl, rfl⟩
theorem s_X11_order_s {G : zG} {w : zW} {n a r : Nat} (hw : zWf w) (hn : n ≤ 12) (hP : w.1 0 10 = nI n) (ha2 : a < 2 ^ n) (ha1 : 1 ≤ a) (h8 : zcnt a.testBit n ≤ 8) (hr : r < 6) (h : ∀ p, p < n → a.testBit p = true → zheldk (w.1 (47 + 4 * p) 3)) (hs : w.1 131 0 = 1) : zEi G mX11_order [.ref 0, .int (nI a), .int (nI r)] w (-6) w := by
  refine zC_of (lo := [_, _, _, _, _]) kcX11_order (Nat.le_of_ble_eq_true rfl) rfl (fun X hX hE => ?_)
  refine s_X11_order_held hX hw hn hP ha2 ha1 h8 hr (fun _ i => ?_) (fun q => absurd h q)
  refine zk_aload_n hX dX11_order_79 rfl ?_
  refine zk_getR hX dX11_order_80 flX11_83 k_0 z_0 (hw _ _ (by decide) |>.trans r_0_13) ?_
  refine zk_getI hX dX11_order_83 flX11_302 k_131 z_131 ?_
  rw [hs]
  refine zk_if_eq (tgt := 92) hX dX11_order_86 (by decide) (fun c86 => ?_) (fun c86 => ?_)
  · exact absurd c86 (by decide)
  refine zk_bipush (v := -6) hX dX11_order_89 (by decide) ?_
  refine zk_iret hX hE rfl ⟨rfl, rfl⟩ dX11_order_91 ⟨_, rfl, ?_⟩
  exact ⟨rfl, rfl⟩
