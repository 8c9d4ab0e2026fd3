def zmis (M S : zS) : Nat := zcard (zdiff M S)
def zovr (M Y S : zS) : Nat := zcard (zdiff S (zun M Y))
def zofB (M Y S : zS) : Nat := zmis M S + zovr M Y S
theorem zcard_c {S T : zS} (h : ∀ c, c < 120 → S c = T c) : zcard S = zcard T := zcnt_c h
theorem zcard_le (S : zS) : zcard S ≤ 120 := zcnt_le S 120
theorem zofB_c {M Y S M' Y' S' : zS} (h1 : ∀ c, c < 120 → M c = M' c) (h2 : ∀ c, c < 120 → Y c = Y' c) (h3 : ∀ c, c < 120 → S c = S' c) : zmis M S = zmis M' S' ∧ zovr M Y S = zovr M' Y' S' ∧ zofB M Y S = zofB M' Y' S' := by
  have a : zmis M S = zmis M' S' := zcard_c (fun c hc => by unfold zdiff; rw [h1 c hc, h3 c hc])
  have b : zovr M Y S = zovr M' Y' S' := zcard_c (fun c hc => by unfold zdiff zun; rw [h1 c hc, h2 c hc, h3 c hc])
  exact ⟨a, b, by unfold zofB; rw [a, b]⟩
theorem zcard_2 (S : zS) : nI (zcnt (zbits S 60).testBit 64) + nI (zcnt (zbits (fun i => S (60 + i)) 60).testBit 64) = nI (zcard S) := by
  rw [zbits_cnt (by decide), zbits_cnt (by decide), nI_add]
  unfold zcard
  rw [show (120 : Nat) = 60 + 60 from rfl, zcnt_add]
def cBe (w : zW) (k : Nat) (M Y : zS) : Prop := zHas w (97 + 3 * k) M ∧ zHas w (98 + 3 * k) Y
theorem s_X0_missed {G : zG} {w : zW} {k : Nat} {M Y S : zS} (hw : zWf w) (hk : k < 6) (hB : cBe w k M Y) : zEi G mX0_missed [.ref (96 + 3 * k), .long (zT S), .long (zLo S)] w (nI (zmis M S)) w := by
  refine zC_of (lo := [_, _, _, _, _]) kcX0_missed (Nat.le_of_ble_eq_true rfl) rfl (fun X hX hE => ?_)
  refine zk_aload_n hX dX0_missed_0 rfl ?_
  refine zk_getR hX dX0_missed_1 flX0_10 (zBek (by first | assumption | omega)) (zBez _ (by first | assumption | omega)).1 ((hw _ _ (by omega)).trans (zBez _ (by first | assumption | omega)).2.2.2.1) ?_
  refine zk_getL hX dX0_missed_4 flX0_19 (show 97 + 3 * _ < 202 by omega) (zBez _ (by first | assumption | omega)).2.1 ?_
  rw [hB.1.1]
  refine zk_lload_n hX dX0_missed_7 rfl ?_
  refine zk_ldc2 hX dX0_missed_8 cnX0_23 ?_
  refine zk_lxor hX dX0_missed_11 ?_
  refine zk_land hX dX0_missed_12 ?_
  rw [show zT M &&& (zT S ^^^ -1) = lN (zbits (zdiff M S) 60) from zT_diff M S]
  refine zk_S1i hX dX0_missed_13 kcJ13_bitCount_95d88 mlX0_25 smJ13_bitCount_95d88 rfl (s_J13_bitCount (zp64 (zbits_lt _ _))) (Nat.le_of_ble_eq_true rfl) rfl ?_
  refine zk_aload_n hX dX0_missed_16 rfl ?_
  refine zk_getR hX dX0_missed_17 flX0_10 (zBek (by first | assumption | omega)) (zBez _ (by first | assumption | omega)).1 ((hw _ _ (by omega)).trans (zBez _ (by first | assumption | omega)).2.2.2.1) ?_
  refine zk_getL hX dX0_missed_20 flX0_31 (show 97 + 3 * _ < 202 by omega) (zBez _ (by first | assumption | omega)).2.1 ?_
  rw [hB.1.2]
  refine zk_lload_n hX dX0_missed_23 rfl ?_
  refine zk_ldc2 hX dX0_missed_24 cnX0_23 ?_
  refine zk_lxor hX dX0_missed_27 ?_
  refine zk_land hX dX0_missed_28 ?_
  rw [show zLo M &&& (zLo S ^^^ -1) = lN (zbits (fun i => zdiff M S (60 + i)) 60) from zLo_diff M S]
  refine zk_S1i hX dX0_missed_29 kcJ13_bitCount_95d88 mlX0_25 smJ13_bitCount_95d88 rfl (s_J13_bitCount (zp64 (zbits_lt _ _))) (Nat.le_of_ble_eq_true rfl) rfl ?_
  refine zk_iadd hX dX0_missed_32 ?_
  refine zk_iret hX hE rfl ⟨rfl, rfl⟩ dX0_missed_33 ⟨_, rfl, ?_⟩
  exact ⟨zcard_2 _, rfl⟩
theorem s_X0_over {G : zG} {w : zW} {k : Nat} {M Y S : zS} (hw : zWf w) (hk : k < 6) (hB : cBe w k M Y) : zEi G mX0_over [.ref (96 + 3 * k), .long (zT S), .long (zLo S)] w (nI (zovr M Y S)) w := by
  refine zC_of (lo := [_, _, _, _, _]) kcX0_over (Nat.le_of_ble_eq_true rfl) rfl (fun X hX hE => ?_)
  refine zk_lload_n hX dX0_over_0 rfl ?_
  refine zk_aload_n hX dX0_over_1 rfl ?_
  refine zk_getR hX dX0_over_2 flX0_10 (zBek (by first | assumption | omega)) (zBez _ (by first | assumption | omega)).1 ((hw _ _ (by omega)).trans (zBez _ (by first | assumption | omega)).2.2.2.1) ?_
  refine zk_getL hX dX0_over_5 flX0_19 (show 97 + 3 * _ < 202 by omega) (zBez _ (by first | assumption | omega)).2.1 ?_
  rw [hB.1.1]
  refine zk_aload_n hX dX0_over_8 rfl ?_
  refine zk_getR hX dX0_over_9 flX0_16 (zBek (by first | assumption | omega)) (zBez _ (by first | assumption | omega)).1 ((hw _ _ (by omega)).trans (zBez _ (by first | assumption | omega)).2.2.2.2) ?_
  refine zk_getL hX dX0_over_12 flX0_19 (show 98 + 3 * _ < 202 by omega) (zBez _ (by first | assumption | omega)).2.2.1 ?_
  rw [hB.2.1]
  refine zk_lor hX dX0_over_15 ?_
  rw [zT_or]
  refine zk_ldc2 hX dX0_over_16 cnX0_23 ?_
  refine zk_lxor hX dX0_over_19 ?_
  refine zk_land hX dX0_over_20 ?_
  rw [show zT S &&& (zT (zun M Y) ^^^ -1) = lN (zbits (zdiff S (zun M Y)) 60) from zT_diff S (zun M Y)]
  refine zk_S1i hX dX0_over_21 kcJ13_bitCount_95d88 mlX0_25 smJ13_bitCount_95d88 rfl (s_J13_bitCount (zp64 (zbits_lt _ _))) (Nat.le_of_ble_eq_true rfl) rfl ?_
  refine zk_lload_n hX dX0_over_24 rfl ?_
  refine zk_aload_n hX dX0_over_25 rfl ?_
  refine zk_getR hX dX0_over_26 flX0_10 (zBek (by first | assumption | omega)) (zBez _ (by first | assumption | omega)).1 ((hw _ _ (by omega)).trans (zBez _ (by first | assumption | omega)).2.2.2.1) ?_
  refine zk_getL hX dX0_over_29 flX0_31 (show 97 + 3 * _ < 202 by omega) (zBez _ (by first | assumption | omega)).2.1 ?_
  rw [hB.1.2]
  refine zk_aload_n hX dX0_over_32 rfl ?_
  refine zk_getR hX dX0_over_33 flX0_16 (zBek (by first | assumption | omega)) (zBez _ (by first | assumption | omega)).1 ((hw _ _ (by omega)).trans (zBez _ (by first | assumption | omega)).2.2.2.2) ?_
  refine zk_getL hX dX0_over_36 flX0_31 (show 98 + 3 * _ < 202 by omega) (zBez _ (by first | assumption | omega)).2.2.1 ?_
  rw [hB.2.2]
  refine zk_lor hX dX0_over_39 ?_
  rw [zLo_or]
  refine zk_ldc2 hX dX0_over_40 cnX0_23 ?_
  refine zk_lxor hX dX0_over_43 ?_
  refine zk_land hX dX0_over_44 ?_
  rw [show zLo S &&& (zLo (zun M Y) ^^^ -1) = lN (zbits (fun i => zdiff S (zun M Y) (60 + i)) 60) from zLo_diff S (zun M Y)]
  refine zk_S1i hX dX0_over_45 kcJ13_bitCount_95d88 mlX0_25 smJ13_bitCount_95d88 rfl (s_J13_bitCount (zp64 (zbits_lt _ _))) (Nat.le_of_ble_eq_true rfl) rfl ?_
  refine zk_iadd hX dX0_over_48 ?_
  refine zk_iret hX hE rfl ⟨rfl, rfl⟩ dX0_over_49 ⟨_, rfl, ?_⟩
  exact ⟨zcard_2 _, rfl⟩
theorem s_X0_offOf {G : zG} {w : zW} {k : Nat} {M Y S : zS} (hw : zWf w) (hk : k < 6) (hB : cBe w k M Y) : zEi G mX0_offOf [.ref (96 + 3 * k), .long (zT S), .long (zLo S)] w (nI (zofB M Y S)) w := by
  refine zC_of (lo := [_, _, _, _, _]) kcX0_offOf (Nat.le_of_ble_eq_true rfl) rfl (fun X hX hE => ?_)
  refine zk_aload_n hX dX0_offOf_0 rfl ?_
  refine zk_lload_n hX dX0_offOf_1 rfl ?_
  refine zk_lload_n hX dX0_offOf_2 rfl ?_
  refine zk_V2i hX dX0_offOf_3 kcX0_missed mlX0_34 viX0_missed rfl (zBek (by first | assumption | omega)) (zBez _ (by first | assumption | omega)).1 (s_X0_missed hw hk hB) (Nat.le_of_ble_eq_true rfl) rfl ?_
  refine zk_aload_n hX dX0_offOf_6 rfl ?_
  refine zk_lload_n hX dX0_offOf_7 rfl ?_
  refine zk_lload_n hX dX0_offOf_8 rfl ?_
  refine zk_V2i hX dX0_offOf_9 kcX0_over mlX0_38 viX0_over rfl (zBek (by first | assumption | omega)) (zBez _ (by first | assumption | omega)).1 (s_X0_over hw hk hB) (Nat.le_of_ble_eq_true rfl) rfl ?_
  refine zk_iadd hX dX0_offOf_12 ?_
  refine zk_iret hX hE rfl ⟨rfl, rfl⟩ dX0_offOf_13 ⟨_, rfl, ?_⟩
  exact ⟨nI_add _ _, rfl⟩
/-! the model's -/
def mBe (w : zW) (k : Nat) (M Y : zS) : Prop := ∀ y, y < 10 → w.1 187 (10 * k + y) = nI (zline M y) ∧ w.1 188 (10 * k + y) = nI (zline Y y)
theorem mBe_o {w w' : zW} {k : Nat} {M Y : zS} (h : mBe w k M Y) (e : w'.1 187 = w.1 187 ∧ w'.1 188 = w.1 188) : mBe w' k M Y := fun y hy => by rw [e.1, e.2]; exact h y hy
theorem nI_andnot (a b : Nat) : nI a &&& (nI b ^^^ -1) = nI (a ^^^ (a &&& b)) := by
  apply Int32.toBitVec_inj.mp
  rw [Int32.toBitVec_and, Int32.toBitVec_xor, nI_bv, nI_bv, nI_bv]
  apply BitVec.eq_of_getLsbD_eq
  intro i hi
  have h1 : (-1 : Int32).toBitVec = BitVec.allOnes 32 := by decide
  rw [h1]
  simp only [BitVec.getLsbD_and, BitVec.getLsbD_xor, BitVec.getLsbD_allOnes, BitVec.getLsbD_ofNat, Nat.testBit_xor, Nat.testBit_and, hi, decide_true, Bool.true_and]
  cases a.testBit i <;> cases b.testBit i <;> rfl
theorem zline_diff (S T : zS) (y : Nat) : zline S y ^^^ (zline S y &&& zline T y) = zline (zdiff S T) y := zb_diff
theorem zline_un (S T : zS) (y : Nat) : zline S y ||| zline T y = zline (zun S T) y := zb_or
theorem s_X12_missedBy {G : zG} {w : zW} {k : Nat} {M Y S : zS} (hw : zWf w) (hk : k < 6) (hB : mBe w k M Y) (hS : zMd w S) : zEi G mX12_missedBy [.ref 166, .int (nI k)] w (nI (zmis M S)) w := by
  refine zC_of (lo := [_, _, _, _]) kcX12_missedBy (Nat.le_of_ble_eq_true rfl) rfl (fun X hX hE => ?_)
  have loop : ∀ z i, i + z = 10 → zk0 G X mX12_missedBy 4 [.ref 166, .int (nI k), .int (nI (zcnt (zdiff M S) (12 * i))), .int (nI i)] [] w := by
    intro z
    induction z with
    | zero =>
      intro i hi
      obtain rfl : i = 10 := by omega
      refine zk_iload_n hX dX12_missedBy_4 rfl ?_
      refine zk_bipush (v := 10) hX dX12_missedBy_5 (by decide) ?_
      refine zk_icmp_ge (tgt := 42) hX dX12_missedBy_7 (by decide) (fun c7 => ?_) (fun c7 => ?_)
      rotate_left
      · exact absurd (by decide) c7
      refine zk_iload_n hX dX12_missedBy_42 rfl ?_
      refine zk_iret hX hE rfl ⟨rfl, rfl⟩ dX12_missedBy_43 ⟨_, rfl, ?_⟩
      exact ⟨rfl, rfl⟩
    | succ z ih =>
      intro i hi
      have h0 := ih (i + 1) (by omega)
      rw [zcnt_lines, ← nI_add] at h0
      refine zk_iload_n hX dX12_missedBy_4 rfl ?_
      refine zk_bipush (v := 10) hX dX12_missedBy_5 (by decide) ?_
      refine zk_icmp_ge (tgt := 42) hX dX12_missedBy_7 (by decide) (fun c7 => ?_) (fun c7 => ?_)
      · exact absurd c7 (nI_ge (b := 10) (by omega) (by decide))
      refine zk_iload_n hX dX12_missedBy_10 rfl ?_
      refine zk_aload_n hX dX12_missedBy_11 rfl ?_
      refine zk_getR hX dX12_missedBy_12 flX12_72 k_166 z_166 (hw _ _ (by decide) |>.trans r_166_38) ?_
      refine zk_bipush (v := 10) hX dX12_missedBy_15 (by decide) ?_
      refine zk_iload_n hX dX12_missedBy_17 rfl ?_
      refine zk_imul hX dX12_missedBy_18 ?_
      refine zk_iload_n hX dX12_missedBy_19 rfl ?_
      refine zk_iadd hX dX12_missedBy_20 ?_
      refine zk_ialdE hX dX12_missedBy_21 (nI_addE (nI_mulE (nI_k 10 rfl) rfl) rfl) k_187 z_187 (by first | assumption | omega) rfl ?_
      rw [(hB i (by omega)).1]
      refine zk_aload_n hX dX12_missedBy_22 rfl ?_
      refine zk_getR hX dX12_missedBy_23 flX12_56 k_166 z_166 (hw _ _ (by decide) |>.trans r_166_32) ?_
      refine zk_iload_n hX dX12_missedBy_26 rfl ?_
      refine zk_ialdE hX dX12_missedBy_27 rfl k_182 z_182 (by first | assumption | omega) rfl ?_
      rw [hS i (by omega)]
      refine zk_iconst (v := -1) hX dX12_missedBy_28 (by decide) ?_
      refine zk_ixor hX dX12_missedBy_29 ?_
      refine zk_iand hX dX12_missedBy_30 ?_
      rw [nI_andnot, zline_diff]
      refine zk_S1i hX dX12_missedBy_31 kcX12_bits mlX12_266 smX12_bits rfl (s_X12_bits (zline_lt _ _)) (Nat.le_of_ble_eq_true rfl) rfl ?_
      refine zk_iadd hX dX12_missedBy_34 ?_
      refine zk_istore_n (lo' := [_, _, _, _]) hX dX12_missedBy_35 (Nat.le_of_ble_eq_true rfl) rfl rfl ?_
      refine zk_iinc (lo' := [_, _, _, _]) hX dX12_missedBy_36 rfl (by first | exact zinc _ | exact rfl) (Nat.le_of_ble_eq_true rfl) rfl rfl ?_
      refine zk_goto (tgt := 4) hX dX12_missedBy_39 (by decide) ?_
      exact h0
  refine zk_iconst (v := 0) hX dX12_missedBy_0 (by decide) ?_
  refine zk_istore_n (lo' := [_, _, _, _]) hX dX12_missedBy_1 (Nat.le_of_ble_eq_true rfl) rfl rfl ?_
  refine zk_iconst (v := 0) hX dX12_missedBy_2 (by decide) ?_
  refine zk_istore_n (lo' := [_, _, _, _]) hX dX12_missedBy_3 (Nat.le_of_ble_eq_true rfl) rfl rfl ?_
  exact loop 10 0 (by omega)
theorem s_X12_overBy {G : zG} {w : zW} {k : Nat} {M Y S : zS} (hw : zWf w) (hk : k < 6) (hB : mBe w k M Y) (hS : zMd w S) : zEi G mX12_overBy [.ref 166, .int (nI k)] w (nI (zovr M Y S)) w := by
  refine zC_of (lo := [_, _, _, _]) kcX12_overBy (Nat.le_of_ble_eq_true rfl) rfl (fun X hX hE => ?_)
  have loop : ∀ z i, i + z = 10 → zk0 G X mX12_overBy 4 [.ref 166, .int (nI k), .int (nI (zcnt (zdiff S (zun M Y)) (12 * i))), .int (nI i)] [] w := by
    intro z
    induction z with
    | zero =>
      intro i hi
      obtain rfl : i = 10 := by omega
      refine zk_iload_n hX dX12_overBy_4 rfl ?_
      refine zk_bipush (v := 10) hX dX12_overBy_5 (by decide) ?_
      refine zk_icmp_ge (tgt := 54) hX dX12_overBy_7 (by decide) (fun c7 => ?_) (fun c7 => ?_)
      rotate_left
      · exact absurd (by decide) c7
      refine zk_iload_n hX dX12_overBy_54 rfl ?_
      refine zk_iret hX hE rfl ⟨rfl, rfl⟩ dX12_overBy_55 ⟨_, rfl, ?_⟩
      exact ⟨rfl, rfl⟩
    | succ z ih =>
      intro i hi
      have h0 := ih (i + 1) (by omega)
      rw [zcnt_lines, ← nI_add] at h0
      refine zk_iload_n hX dX12_overBy_4 rfl ?_
      refine zk_bipush (v := 10) hX dX12_overBy_5 (by decide) ?_
      refine zk_icmp_ge (tgt := 54) hX dX12_overBy_7 (by decide) (fun c7 => ?_) (fun c7 => ?_)
      · exact absurd c7 (nI_ge (b := 10) (by omega) (by decide))
      refine zk_iload_n hX dX12_overBy_10 rfl ?_
      refine zk_aload_n hX dX12_overBy_11 rfl ?_
      refine zk_getR hX dX12_overBy_12 flX12_56 k_166 z_166 (hw _ _ (by decide) |>.trans r_166_32) ?_
      refine zk_iload_n hX dX12_overBy_15 rfl ?_
      refine zk_ialdE hX dX12_overBy_16 rfl k_182 z_182 (by first | assumption | omega) rfl ?_
      rw [hS i (by omega)]
      refine zk_aload_n hX dX12_overBy_17 rfl ?_
      refine zk_getR hX dX12_overBy_18 flX12_72 k_166 z_166 (hw _ _ (by decide) |>.trans r_166_38) ?_
      refine zk_bipush (v := 10) hX dX12_overBy_21 (by decide) ?_
      refine zk_iload_n hX dX12_overBy_23 rfl ?_
      refine zk_imul hX dX12_overBy_24 ?_
      refine zk_iload_n hX dX12_overBy_25 rfl ?_
      refine zk_iadd hX dX12_overBy_26 ?_
      refine zk_ialdE hX dX12_overBy_27 (nI_addE (nI_mulE (nI_k 10 rfl) rfl) rfl) k_187 z_187 (by first | assumption | omega) rfl ?_
      rw [(hB i (by omega)).1]
      refine zk_aload_n hX dX12_overBy_28 rfl ?_
      refine zk_getR hX dX12_overBy_29 flX12_75 k_166 z_166 (hw _ _ (by decide) |>.trans r_166_39) ?_
      refine zk_bipush (v := 10) hX dX12_overBy_32 (by decide) ?_
      refine zk_iload_n hX dX12_overBy_34 rfl ?_
      refine zk_imul hX dX12_overBy_35 ?_
      refine zk_iload_n hX dX12_overBy_36 rfl ?_
      refine zk_iadd hX dX12_overBy_37 ?_
      refine zk_ialdE hX dX12_overBy_38 (nI_addE (nI_mulE (nI_k 10 rfl) rfl) rfl) k_188 z_188 (by first | assumption | omega) rfl ?_
      rw [(hB i (by omega)).2]
      refine zk_ior hX dX12_overBy_39 ?_
      rw [nI_or, zline_un]
      refine zk_iconst (v := -1) hX dX12_overBy_40 (by decide) ?_
      refine zk_ixor hX dX12_overBy_41 ?_
      refine zk_iand hX dX12_overBy_42 ?_
      rw [nI_andnot, zline_diff]
      refine zk_S1i hX dX12_overBy_43 kcX12_bits mlX12_266 smX12_bits rfl (s_X12_bits (zline_lt _ _)) (Nat.le_of_ble_eq_true rfl) rfl ?_
      refine zk_iadd hX dX12_overBy_46 ?_
      refine zk_istore_n (lo' := [_, _, _, _]) hX dX12_overBy_47 (Nat.le_of_ble_eq_true rfl) rfl rfl ?_
      refine zk_iinc (lo' := [_, _, _, _]) hX dX12_overBy_48 rfl (by first | exact zinc _ | exact rfl) (Nat.le_of_ble_eq_true rfl) rfl rfl ?_
      refine zk_goto (tgt := 4) hX dX12_overBy_51 (by decide) ?_
      exact h0
  refine zk_iconst (v := 0) hX dX12_overBy_0 (by decide) ?_
  refine zk_istore_n (lo' := [_, _, _, _]) hX dX12_overBy_1 (Nat.le_of_ble_eq_true rfl) rfl rfl ?_
  refine zk_iconst (v := 0) hX dX12_overBy_2 (by decide) ?_
  refine zk_istore_n (lo' := [_, _, _, _]) hX dX12_overBy_3 (Nat.le_of_ble_eq_true rfl) rfl rfl ?_
  exact loop 10 0 (by omega)
theorem s_X12_offBy {G : zG} {w : zW} {k : Nat} {M Y S : zS} (hw : zWf w) (hk : k < 6) (hB : mBe w k M Y) (hS : zMd w S) : zEi G mX12_offBy [.ref 166, .int (nI k)] w (nI (zofB M Y S)) w := by
  refine zC_of (lo := [_, _]) kcX12_offBy (Nat.le_of_ble_eq_true rfl) rfl (fun X hX hE => ?_)
  refine zk_aload_n hX dX12_offBy_0 rfl ?_
  refine zk_iload_n hX dX12_offBy_1 rfl ?_
  refine zk_V1i hX dX12_offBy_2 kcX12_missedBy mlX12_320 viX12_missedBy rfl k_166 z_166 (s_X12_missedBy hw hk hB hS) (Nat.le_of_ble_eq_true rfl) rfl ?_
  refine zk_aload_n hX dX12_offBy_5 rfl ?_
  refine zk_iload_n hX dX12_offBy_6 rfl ?_
  refine zk_V1i hX dX12_offBy_7 kcX12_overBy mlX12_323 viX12_overBy rfl k_166 z_166 (s_X12_overBy hw hk hB hS) (Nat.le_of_ble_eq_true rfl) rfl ?_
  refine zk_iadd hX dX12_offBy_10 ?_
  refine zk_iret hX hE rfl ⟨rfl, rfl⟩ dX12_offBy_11 ⟨_, rfl, ?_⟩
  exact ⟨nI_add _ _, rfl⟩
theorem s_X12_cardMany {G : zG} {w : zW} {p : Nat} {C : zS} (hw : zWf w) (hp : p < 12) (hS : ∀ y, y < 10 → w.1 185 (10 * p + y) = nI (zline C y)) : zEi G mX12_cardMany [.ref 166, .int (nI p)] w (nI (zcard C)) w := by
  refine zC_of (lo := [_, _, _, _]) kcX12_cardMany (Nat.le_of_ble_eq_true rfl) rfl (fun X hX hE => ?_)
  have loop : ∀ z i, i + z = 10 → zk0 G X mX12_cardMany 4 [.ref 166, .int (nI p), .int (nI (zcnt C (12 * i))), .int (nI i)] [] w := by
    intro z
    induction z with
    | zero =>
      intro i hi
      obtain rfl : i = 10 := by omega
      refine zk_iload_n hX dX12_cardMany_4 rfl ?_
      refine zk_bipush (v := 10) hX dX12_cardMany_5 (by decide) ?_
      refine zk_icmp_ge (tgt := 33) hX dX12_cardMany_7 (by decide) (fun c7 => ?_) (fun c7 => ?_)
      rotate_left
      · exact absurd (by decide) c7
      refine zk_iload_n hX dX12_cardMany_33 rfl ?_
      refine zk_iret hX hE rfl ⟨rfl, rfl⟩ dX12_cardMany_34 ⟨_, rfl, ?_⟩
      exact ⟨rfl, rfl⟩
    | succ z ih =>
      intro i hi
      have h0 := ih (i + 1) (by omega)
      rw [zcnt_lines, ← nI_add] at h0
      refine zk_iload_n hX dX12_cardMany_4 rfl ?_
      refine zk_bipush (v := 10) hX dX12_cardMany_5 (by decide) ?_
      refine zk_icmp_ge (tgt := 33) hX dX12_cardMany_7 (by decide) (fun c7 => ?_) (fun c7 => ?_)
      · exact absurd c7 (nI_ge (b := 10) (by omega) (by decide))
      refine zk_iload_n hX dX12_cardMany_10 rfl ?_
      refine zk_aload_n hX dX12_cardMany_11 rfl ?_
      refine zk_getR hX dX12_cardMany_12 flX12_65 k_166 z_166 (hw _ _ (by decide) |>.trans r_166_36) ?_
      refine zk_bipush (v := 10) hX dX12_cardMany_15 (by decide) ?_
      refine zk_iload_n hX dX12_cardMany_17 rfl ?_
      refine zk_imul hX dX12_cardMany_18 ?_
      refine zk_iload_n hX dX12_cardMany_19 rfl ?_
      refine zk_iadd hX dX12_cardMany_20 ?_
      refine zk_ialdE hX dX12_cardMany_21 (nI_addE (nI_mulE (nI_k 10 rfl) rfl) rfl) k_185 z_185 (by first | assumption | omega) rfl ?_
      rw [hS i (by omega)]
      refine zk_S1i hX dX12_cardMany_22 kcX12_bits mlX12_266 smX12_bits rfl (s_X12_bits (zline_lt _ _)) (Nat.le_of_ble_eq_true rfl) rfl ?_
      refine zk_iadd hX dX12_cardMany_25 ?_
      refine zk_istore_n (lo' := [_, _, _, _]) hX dX12_cardMany_26 (Nat.le_of_ble_eq_true rfl) rfl rfl ?_
      refine zk_iinc (lo' := [_, _, _, _]) hX dX12_cardMany_27 rfl (by first | exact zinc _ | exact rfl) (Nat.le_of_ble_eq_true rfl) rfl rfl ?_
      refine zk_goto (tgt := 4) hX dX12_cardMany_30 (by decide) ?_
      exact h0
  refine zk_iconst (v := 0) hX dX12_cardMany_0 (by decide) ?_
  refine zk_istore_n (lo' := [_, _, _, _]) hX dX12_cardMany_1 (Nat.le_of_ble_eq_true rfl) rfl rfl ?_
  refine zk_iconst (v := 0) hX dX12_cardMany_2 (by decide) ?_
  refine zk_istore_n (lo' := [_, _, _, _]) hX dX12_cardMany_3 (Nat.le_of_ble_eq_true rfl) rfl rfl ?_
  exact loop 10 0 (by omega)
/-- what is wanted, the model's -/
def mWn (w : zW) (S : zS) : Prop := ∀ y, y < 10 → w.1 191 y = nI (zline S y)
theorem s_X12_layWanted {G : zG} {w : zW} {r : Nat} (hw : zWf w) (hr : r < 6) : zCv G mX12_layWanted [.ref 166, .int (nI r)] w (fun w' => zFr [191] [] [] w w' ∧ ∀ y, y < 10 → w'.1 191 y = w.1 169 (40 * r + y)) := by
  refine zC_of (lo := [_, _, _]) kcX12_layWanted (Nat.le_of_ble_eq_true rfl) rfl (fun X hX hE => ?_)
  have loop : ∀ z i w1, i + z = 10 → zFr [191] [] [] w w1 → (∀ y, y < i → w1.1 191 y = w.1 169 (40 * r + y)) → zk0 G X mX12_layWanted 2 [.ref 166, .int (nI r), .int (nI i)] [] w1 := by
    intro z
    induction z with
    | zero =>
      intro i w1 hi hF h
      obtain rfl : i = 10 := by omega
      refine zk_iload_n hX dX12_layWanted_2 rfl ?_
      refine zk_bipush (v := 10) hX dX12_layWanted_3 (by decide) ?_
      refine zk_icmp_ge (tgt := 26) hX dX12_layWanted_5 (by decide) (fun c5 => ?_) (fun c5 => ?_)
      rotate_left
      · exact absurd (by decide) c5
      refine zk_vret hX hE rfl ⟨rfl, rfl⟩ dX12_layWanted_26 ⟨rfl, ?_⟩
      exact ⟨hF, h⟩
    | succ z ih =>
      intro i w1 hi hF h
      have hw1 := zFr_wf hF hw
      have e9 : w1.1 169 = w.1 169 := hF.2.1 169 (by decide) (by decide)
      refine zk_iload_n hX dX12_layWanted_2 rfl ?_
      refine zk_bipush (v := 10) hX dX12_layWanted_3 (by decide) ?_
      refine zk_icmp_ge (tgt := 26) hX dX12_layWanted_5 (by decide) (fun c5 => ?_) (fun c5 => ?_)
      · exact absurd c5 (nI_ge (b := 10) (by omega) (by decide))
      refine zk_aload_n hX dX12_layWanted_8 rfl ?_
      refine zk_getR hX dX12_layWanted_9 flX12_84 k_166 z_166 (hw1 _ _ (by decide) |>.trans r_166_43) ?_
      refine zk_iload_n hX dX12_layWanted_12 rfl ?_
      refine zk_aload_n hX dX12_layWanted_13 rfl ?_
      refine zk_iload_n hX dX12_layWanted_14 rfl ?_
      refine zk_iload_n hX dX12_layWanted_15 rfl ?_
      refine zk_V2i hX dX12_layWanted_16 kcX12_rowAt mlX12_149 viX12_rowAt rfl k_166 z_166 (s_X12_rowAt hw1 (by omega)) (Nat.le_of_ble_eq_true rfl) rfl ?_
      rw [e9]
      refine zk_iastE hX dX12_layWanted_19 rfl k_191 z_191 (by first | assumption | omega) rfl ?_
      refine zk_iinc (lo' := [_, _, _]) hX dX12_layWanted_20 rfl (by first | exact zinc _ | exact rfl) (Nat.le_of_ble_eq_true rfl) rfl rfl ?_
      refine zk_goto (tgt := 2) hX dX12_layWanted_23 (by decide) ?_
      refine ih (i + 1) _ (by omega) (zFr_t hF (zFr_i (by decide) (by decide))) (fun y hy => ?_)
      rw [zsi_1]
      by_cases q : y = i
      · rw [if_pos ⟨rfl, q⟩, q]
      · rw [if_neg (fun z => q z.2)]
        exact h y (by omega)
  refine zk_iconst (v := 0) hX dX12_layWanted_0 (by decide) ?_
  refine zk_istore_n (lo' := [_, _, _]) hX dX12_layWanted_1 (Nat.le_of_ble_eq_true rfl) rfl rfl ?_
  exact loop 10 0 w (by omega) zFr_r (fun y hy => absurd hy (by omega))
theorem zlines_eq {S T : zS} : (∀ y, y < 10 → zline S y = zline T y) ↔ ∀ c, c < 120 → S c = T c := by
  constructor
  · intro h c hc
    have := zbits_inj (P := fun x => S (12 * (c / 12) + x)) (R := fun x => T (12 * (c / 12) + x)) (n := 12) (h (c / 12) (by omega)) (i := c % 12) (by omega)
    have e : 12 * (c / 12) + c % 12 = c := by omega
    rwa [e] at this
  · intro h y hy
    exact zline_c h hy
def zeqL (S T : zS) : Nat → Bool
  | 0 => true
  | n + 1 => zeqL S T n && decide (zline S n = zline T n)
theorem zeqL_m {S T : zS} : ∀ {n : Nat}, zeqL S T n = true ↔ ∀ y, y < n → zline S y = zline T y
  | 0 => ⟨fun _ y hy => absurd hy (by omega), fun _ => rfl⟩
  | n + 1 => by
    show (zeqL S T n && decide (zline S n = zline T n)) = true ↔ _
    rw [Bool.and_eq_true, zeqL_m, decide_eq_true_eq]
    constructor
    · rintro ⟨h1, h2⟩ y hy
      rcases Nat.lt_succ_iff_lt_or_eq.mp hy with h | rfl
      · exact h1 y h
      · exact h2
    · intro h
      exact ⟨fun y hy => h y (by omega), h n (by omega)⟩
theorem s_X12_isWanted {G : zG} {w : zW} {S T : zS} (hw : zWf w) (hS : zMd w S) (hT : mWn w T) : zEi G mX12_isWanted [.ref 166] w (zb (zT S = zT T ∧ zLo S = zLo T)) w := by
  refine zC_of (lo := [_, _, _]) kcX12_isWanted (Nat.le_of_ble_eq_true rfl) rfl (fun X hX hE => ?_)
  have loop : ∀ z i, i + z = 10 → zk0 G X mX12_isWanted 4 [.ref 166, .int (zb (zeqL S T i = true)), .int (nI i)] [] w := by
    intro z
    induction z with
    | zero =>
      intro i hi
      obtain rfl : i = 10 := by omega
      refine zk_iload_n hX dX12_isWanted_4 rfl ?_
      refine zk_bipush (v := 10) hX dX12_isWanted_5 (by decide) ?_
      refine zk_icmp_ge (tgt := 41) hX dX12_isWanted_7 (by decide) (fun c7 => ?_) (fun c7 => ?_)
      rotate_left
      · exact absurd (by decide) c7
      refine zk_iload_n hX dX12_isWanted_41 rfl ?_
      refine zk_zret hX hE rfl ⟨rfl, rfl⟩ dX12_isWanted_42 (by simp [narrow, zb_and1]) ⟨_, rfl, ?_⟩
      exact ⟨zb_c (by rw [zeqL_m, zlines_eq, zTL_eq]), rfl⟩
    | succ z ih =>
      intro i hi
      have h9 := ih (i + 1) (by omega)
      have l1 := zline_lt S i
      have l2 := zline_lt T i
      have e0 : (zeqL S T (i + 1) = true) ↔ (zeqL S T i = true ∧ nI (zline S i) = nI (zline T i)) := by
        show (zeqL S T i && decide (zline S i = zline T i)) = true ↔ _
        rw [Bool.and_eq_true, decide_eq_true_eq, nI_eq (by omega) (by omega)]
      refine zk_iload_n hX dX12_isWanted_4 rfl ?_
      refine zk_bipush (v := 10) hX dX12_isWanted_5 (by decide) ?_
      refine zk_icmp_ge (tgt := 41) hX dX12_isWanted_7 (by decide) (fun c7 => ?_) (fun c7 => ?_)
      · exact absurd c7 (nI_ge (b := 10) (by omega) (by decide))
      refine zk_iload_n hX dX12_isWanted_10 rfl ?_
      refine zk_if_eqB (tgt := 33) hX dX12_isWanted_11 (by decide) (fun c11 => ?_) (fun c11 => ?_)
      · refine zk_iconst (v := 0) hX dX12_isWanted_33 (by decide) ?_
        refine zk_istore_n (lo' := [_, _, _]) hX dX12_isWanted_34 (Nat.le_of_ble_eq_true rfl) rfl rfl ?_
        refine zk_iinc (lo' := [_, _, _]) hX dX12_isWanted_35 rfl (by first | exact zinc _ | exact rfl) (Nat.le_of_ble_eq_true rfl) rfl rfl ?_
        refine zk_goto (tgt := 4) hX dX12_isWanted_38 (by decide) ?_
        first
        | (rw [zb_t (e0.mpr ⟨c11, c26⟩)] at h9; exact h9)
        | (rw [zb_t (e0.mpr ⟨c11, Decidable.not_not.mp c26⟩)] at h9; exact h9)
        | (rw [zb_f (fun q => c11 (e0.mp q).1)] at h9; exact h9)
        | (rw [zb_f (fun q => c26 (e0.mp q).2)] at h9; exact h9)
      · refine zk_aload_n hX dX12_isWanted_14 rfl ?_
        refine zk_getR hX dX12_isWanted_15 flX12_56 k_166 z_166 (hw _ _ (by decide) |>.trans r_166_32) ?_
        refine zk_iload_n hX dX12_isWanted_18 rfl ?_
        refine zk_ialdE hX dX12_isWanted_19 rfl k_182 z_182 (by first | assumption | omega) rfl ?_
        rw [hS i (by omega)]
        refine zk_aload_n hX dX12_isWanted_20 rfl ?_
        refine zk_getR hX dX12_isWanted_21 flX12_84 k_166 z_166 (hw _ _ (by decide) |>.trans r_166_43) ?_
        refine zk_iload_n hX dX12_isWanted_24 rfl ?_
        refine zk_ialdE hX dX12_isWanted_25 rfl k_191 z_191 (by first | assumption | omega) rfl ?_
        rw [hT i (by omega)]
        refine zk_icmp_ne (tgt := 33) hX dX12_isWanted_26 (by decide) (fun c26 => ?_) (fun c26 => ?_)
        · refine zk_iconst (v := 0) hX dX12_isWanted_33 (by decide) ?_
          refine zk_istore_n (lo' := [_, _, _]) hX dX12_isWanted_34 (Nat.le_of_ble_eq_true rfl) rfl rfl ?_
          refine zk_iinc (lo' := [_, _, _]) hX dX12_isWanted_35 rfl (by first | exact zinc _ | exact rfl) (Nat.le_of_ble_eq_true rfl) rfl rfl ?_
          refine zk_goto (tgt := 4) hX dX12_isWanted_38 (by decide) ?_
          first
          | (rw [zb_t (e0.mpr ⟨c11, c26⟩)] at h9; exact h9)
          | (rw [zb_t (e0.mpr ⟨c11, Decidable.not_not.mp c26⟩)] at h9; exact h9)
          | (rw [zb_f (fun q => c11 (e0.mp q).1)] at h9; exact h9)
          | (rw [zb_f (fun q => c26 (e0.mp q).2)] at h9; exact h9)
        · refine zk_iconst (v := 1) hX dX12_isWanted_29 (by decide) ?_
          refine zk_goto (tgt := 34) hX dX12_isWanted_30 (by decide) ?_
          refine zk_istore_n (lo' := [_, _, _]) hX dX12_isWanted_34 (Nat.le_of_ble_eq_true rfl) rfl rfl ?_
          refine zk_iinc (lo' := [_, _, _]) hX dX12_isWanted_35 rfl (by first | exact zinc _ | exact rfl) (Nat.le_of_ble_eq_true rfl) rfl rfl ?_
          refine zk_goto (tgt := 4) hX dX12_isWanted_38 (by decide) ?_
          first
          | (rw [zb_t (e0.mpr ⟨c11, c26⟩)] at h9; exact h9)
          | (rw [zb_t (e0.mpr ⟨c11, Decidable.not_not.mp c26⟩)] at h9; exact h9)
          | (rw [zb_f (fun q => c11 (e0.mp q).1)] at h9; exact h9)
          | (rw [zb_f (fun q => c26 (e0.mp q).2)] at h9; exact h9)
  have h9 := loop 10 0 (by omega)
  rw [zb_t (show zeqL S T 0 = true from rfl)] at h9
  refine zk_iconst (v := 1) hX dX12_isWanted_0 (by decide) ?_
  refine zk_istore_n (lo' := [_, _, _]) hX dX12_isWanted_1 (Nat.le_of_ble_eq_true rfl) rfl rfl ?_
  refine zk_iconst (v := 0) hX dX12_isWanted_2 (by decide) ?_
  refine zk_istore_n (lo' := [_, _, _]) hX dX12_isWanted_3 (Nat.le_of_ble_eq_true rfl) rfl rfl ?_
  exact h9
