def zmis (M S : zS) : Nat := zcard (zdiff M S)
def zovr (M Y S : zS) : Nat := zcard (zdiff S (zun M Y))
def zofB (M Y S : zS) : Nat := zmis M S + zovr M Y S
theorem zcard_le (S : zS) : zcard S ≤ 120 := zcnt_le S 120
theorem zcard_2 (S : zS) : nI (zcnt (zbits S 60).testBit 64) + nI (zcnt (zbits (fun i => S (60 + i)) 60).testBit 64) = nI (zcard S) := by
  rw [zbits_cnt (by decide), zbits_cnt (by decide), nI_add]
  unfold zcard
  rw [show (120 : Nat) = 60 + 60 from rfl, zcnt_add]
def cBe (w : zW) (k : Nat) (M Y : zS) : Prop := zHas w (97 + 3 * k) M ∧ zHas w (98 + 3 * k) Y
theorem s_X0_missed {G : zG} {w : zW} {k : Nat} {M Y S : zS} (hw : zWf w) (hk : k < 6) (hB : cBe w k M Y) : zEi G mX0_missed [.ref (96 + 3 * k), .long (zT S), .long (zLo S)] w (nI (zmis M S)) w := by
  refine zC_of (lo := [_, _, _, _, _]) kcX0_missed (Nat.le_of_ble_eq_true rfl) rfl (fun X hX hE => ?_)
  refine zk_aload_n hX dX0_missed_0 rfl ?_
  refine zk_getR hX dX0_missed_1 flX0_10 (zBek (by first | assumption | omega)) (zBez _ (by first | assumption | omega)).1 ((hw _ _ (by omega)).trans (zBez _ (by first | assumption | omega)).2.2.2.1) ?_
  refine zk_getL hX dX0_missed_4 flX0_19 (show 97 + 3 * _ < 166 by omega) (zBez _ (by first | assumption | omega)).2.1 ?_
  rw [hB.1.1]
  refine zk_lload_n hX dX0_missed_7 rfl ?_
  refine zk_ldc2 hX dX0_missed_8 cnX0_23 ?_
  refine zk_lxor hX dX0_missed_11 ?_
  refine zk_land hX dX0_missed_12 ?_
  rw [show zT M &&& (zT S ^^^ -1) = lN (zbits (zdiff M S) 60) from zT_diff M S]
  refine zk_S1i hX dX0_missed_13 kcJ13_bitCount_95d88 mlX0_25 smJ13_bitCount_95d88 rfl (s_J13_bitCount (zp64 (zbits_lt _ _))) (Nat.le_of_ble_eq_true rfl) rfl ?_
  refine zk_aload_n hX dX0_missed_16 rfl ?_
  refine zk_getR hX dX0_missed_17 flX0_10 (zBek (by first | assumption | omega)) (zBez _ (by first | assumption | omega)).1 ((hw _ _ (by omega)).trans (zBez _ (by first | assumption | omega)).2.2.2.1) ?_
  refine zk_getL hX dX0_missed_20 flX0_31 (show 97 + 3 * _ < 166 by omega) (zBez _ (by first | assumption | omega)).2.1 ?_
  rw [hB.1.2]
  refine zk_lload_n hX dX0_missed_23 rfl ?_
  refine zk_ldc2 hX dX0_missed_24 cnX0_23 ?_
  refine zk_lxor hX dX0_missed_27 ?_
  refine zk_land hX dX0_missed_28 ?_
  rw [show zLo M &&& (zLo S ^^^ -1) = lN (zbits (fun i => zdiff M S (60 + i)) 60) from zLo_diff M S]
  refine zk_S1i hX dX0_missed_29 kcJ13_bitCount_95d88 mlX0_25 smJ13_bitCount_95d88 rfl (s_J13_bitCount (zp64 (zbits_lt _ _))) (Nat.le_of_ble_eq_true rfl) rfl ?_
  refine zk_iadd hX dX0_missed_32 ?_
  refine zk_iret hX hE rfl ⟨rfl, rfl⟩ dX0_missed_33 ⟨_, rfl, ?_⟩
  exact ⟨zcard_2 _, rfl⟩
theorem s_X0_over {G : zG} {w : zW} {k : Nat} {M Y S : zS} (hw : zWf w) (hk : k < 6) (hB : cBe w k M Y) : zEi G mX0_over [.ref (96 + 3 * k), .long (zT S), .long (zLo S)] w (nI (zovr M Y S)) w := by
  refine zC_of (lo := [_, _, _, _, _]) kcX0_over (Nat.le_of_ble_eq_true rfl) rfl (fun X hX hE => ?_)
  refine zk_lload_n hX dX0_over_0 rfl ?_
  refine zk_aload_n hX dX0_over_1 rfl ?_
  refine zk_getR hX dX0_over_2 flX0_10 (zBek (by first | assumption | omega)) (zBez _ (by first | assumption | omega)).1 ((hw _ _ (by omega)).trans (zBez _ (by first | assumption | omega)).2.2.2.1) ?_
  refine zk_getL hX dX0_over_5 flX0_19 (show 97 + 3 * _ < 166 by omega) (zBez _ (by first | assumption | omega)).2.1 ?_
  rw [hB.1.1]
  refine zk_aload_n hX dX0_over_8 rfl ?_
  refine zk_getR hX dX0_over_9 flX0_16 (zBek (by first | assumption | omega)) (zBez _ (by first | assumption | omega)).1 ((hw _ _ (by omega)).trans (zBez _ (by first | assumption | omega)).2.2.2.2) ?_
  refine zk_getL hX dX0_over_12 flX0_19 (show 98 + 3 * _ < 166 by omega) (zBez _ (by first | assumption | omega)).2.2.1 ?_
  rw [hB.2.1]
  refine zk_lor hX dX0_over_15 ?_
  rw [zT_or]
  refine zk_ldc2 hX dX0_over_16 cnX0_23 ?_
  refine zk_lxor hX dX0_over_19 ?_
  refine zk_land hX dX0_over_20 ?_
  rw [show zT S &&& (zT (zun M Y) ^^^ -1) = lN (zbits (zdiff S (zun M Y)) 60) from zT_diff S (zun M Y)]
  refine zk_S1i hX dX0_over_21 kcJ13_bitCount_95d88 mlX0_25 smJ13_bitCount_95d88 rfl (s_J13_bitCount (zp64 (zbits_lt _ _))) (Nat.le_of_ble_eq_true rfl) rfl ?_
  refine zk_lload_n hX dX0_over_24 rfl ?_
  refine zk_aload_n hX dX0_over_25 rfl ?_
  refine zk_getR hX dX0_over_26 flX0_10 (zBek (by first | assumption | omega)) (zBez _ (by first | assumption | omega)).1 ((hw _ _ (by omega)).trans (zBez _ (by first | assumption | omega)).2.2.2.1) ?_
  refine zk_getL hX dX0_over_29 flX0_31 (show 97 + 3 * _ < 166 by omega) (zBez _ (by first | assumption | omega)).2.1 ?_
  rw [hB.1.2]
  refine zk_aload_n hX dX0_over_32 rfl ?_
  refine zk_getR hX dX0_over_33 flX0_16 (zBek (by first | assumption | omega)) (zBez _ (by first | assumption | omega)).1 ((hw _ _ (by omega)).trans (zBez _ (by first | assumption | omega)).2.2.2.2) ?_
  refine zk_getL hX dX0_over_36 flX0_31 (show 98 + 3 * _ < 166 by omega) (zBez _ (by first | assumption | omega)).2.2.1 ?_
  rw [hB.2.2]
  refine zk_lor hX dX0_over_39 ?_
  rw [zLo_or]
  refine zk_ldc2 hX dX0_over_40 cnX0_23 ?_
  refine zk_lxor hX dX0_over_43 ?_
  refine zk_land hX dX0_over_44 ?_
  rw [show zLo S &&& (zLo (zun M Y) ^^^ -1) = lN (zbits (fun i => zdiff S (zun M Y) (60 + i)) 60) from zLo_diff S (zun M Y)]
  refine zk_S1i hX dX0_over_45 kcJ13_bitCount_95d88 mlX0_25 smJ13_bitCount_95d88 rfl (s_J13_bitCount (zp64 (zbits_lt _ _))) (Nat.le_of_ble_eq_true rfl) rfl ?_
  refine zk_iadd hX dX0_over_48 ?_
  refine zk_iret hX hE rfl ⟨rfl, rfl⟩ dX0_over_49 ⟨_, rfl, ?_⟩
  exact ⟨zcard_2 _, rfl⟩
theorem s_X0_offOf {G : zG} {w : zW} {k : Nat} {M Y S : zS} (hw : zWf w) (hk : k < 6) (hB : cBe w k M Y) : zEi G mX0_offOf [.ref (96 + 3 * k), .long (zT S), .long (zLo S)] w (nI (zofB M Y S)) w := by
  refine zC_of (lo := [_, _, _, _, _]) kcX0_offOf (Nat.le_of_ble_eq_true rfl) rfl (fun X hX hE => ?_)
  refine zk_aload_n hX dX0_offOf_0 rfl ?_
  refine zk_lload_n hX dX0_offOf_1 rfl ?_
  refine zk_lload_n hX dX0_offOf_2 rfl ?_
  refine zk_V2i hX dX0_offOf_3 kcX0_missed mlX0_34 viX0_missed rfl (zBek (by first | assumption | omega)) (zBez _ (by first | assumption | omega)).1 (s_X0_missed hw hk hB) (Nat.le_of_ble_eq_true rfl) rfl ?_
  refine zk_aload_n hX dX0_offOf_6 rfl ?_
  refine zk_lload_n hX dX0_offOf_7 rfl ?_
  refine zk_lload_n hX dX0_offOf_8 rfl ?_
  refine zk_V2i hX dX0_offOf_9 kcX0_over mlX0_38 viX0_over rfl (zBek (by first | assumption | omega)) (zBez _ (by first | assumption | omega)).1 (s_X0_over hw hk hB) (Nat.le_of_ble_eq_true rfl) rfl ?_
  refine zk_iadd hX dX0_offOf_12 ?_
  refine zk_iret hX hE rfl ⟨rfl, rfl⟩ dX0_offOf_13 ⟨_, rfl, ?_⟩
  exact ⟨nI_add _ _, rfl⟩
theorem nI_andnot (a b : Nat) : nI a &&& (nI b ^^^ -1) = nI (a ^^^ (a &&& b)) := by
  apply Int32.toBitVec_inj.mp
  rw [Int32.toBitVec_and, Int32.toBitVec_xor, nI_bv, nI_bv, nI_bv]
  apply BitVec.eq_of_getLsbD_eq
  intro i hi
  have h1 : (-1 : Int32).toBitVec = BitVec.allOnes 32 := by decide
  rw [h1]
  simp only [BitVec.getLsbD_and, BitVec.getLsbD_xor, BitVec.getLsbD_allOnes, BitVec.getLsbD_ofNat, Nat.testBit_xor, Nat.testBit_and, hi, decide_true, Bool.true_and]
  cases a.testBit i <;> cases b.testBit i <;> rfl
