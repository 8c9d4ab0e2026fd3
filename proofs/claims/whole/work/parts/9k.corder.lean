/-! order: the class's table -/
theorem zBtz : ∀ i, i < 8 → zsh (153 + i) = (1, 0, 8) := by decide +kernel
theorem bit1 {d x : Nat} : nI (d >>> x) &&& 1 = if d.testBit x = true then 1 else 0 := by
  rw [show (1 : Int32) = nI 1 from rfl, nI_and, Nat.and_one_is_mod, Nat.shiftRight_eq_div_pow, ← Nat.toNat_testBit]
  cases d.testBit x <;> rfl
theorem minI {a b : Nat} (ha : a < 2 ^ 31) (hb : b < 2 ^ 31) : (if nI b < nI a then nI b else nI a) = nI (min a b) := by
  by_cases h : b < a
  · rw [if_pos (nI_lt h ha), Nat.min_eq_right (by omega)]
  · rw [if_neg (nI_nlt (by omega) hb), Nat.min_eq_left (by omega)]
theorem oRec_le {s lo d l : Nat} {B T : Nat → Nat → Nat} (h : oRec s B T lo) (hB : ∀ i k, i < s → k < s → B i k ≤ 1000000) (h1 : lo < d) (h2 : d ≤ oAll s) (hl : l < s) : T d l ≤ 1000000 := by
  rw [h d h1 h2 l hl]
  split
  · exact hB l l hl hl
  · exact oMin_le _ _ _
/-- what a call of the class's table needs, where d is done -/
def oHas (w : zW) (s : Nat) (B T : Nat → Nat → Nat) (d : Nat) (last : Option Nat) : Prop := (∀ l, last = some l → l < 8 ∧ ∀ x, x < s → w.1 (153 + l) x = nI (B l x)) ∧ (∀ x, x < s → d.testBit x = false → w.1 161 ((d ||| 1 <<< x) * 8 + x) = nI (T (d ||| 1 <<< x) x)) ∧ ∀ x, x < s → d.testBit x = false → oG B T d last x < 3000000
theorem s_X10_restBy {G : zG} {w : zW} {s d x : Nat} {last : Option Nat} {B T : Nat → Nat → Nat} (hw : zWf w) (hs8 : s ≤ 8) (hd : d < 256) (hx : x < s) (hb : d.testBit x = false) (h : oHas w s B T d last) : zEi G mX10_restBy [.ref 147, .int (nI d), .int (zoe last), .int (nI x)] w (nI (oG B T d last x)) w := by
  have ht := h.2.1 x hx hb
  have hlt : (d ||| 1 <<< x) < 256 := Nat.or_lt_two_pow (n := 8) hd (by rw [Nat.one_shiftLeft]; exact Nat.pow_lt_pow_right (by decide) (by omega))
  cases last with
  | none =>
    refine zC_of (lo := [_, _, _, _]) kcX10_restBy (Nat.le_of_ble_eq_true rfl) rfl (fun X hX hE => ?_)
    refine zk_iload_n hX dX10_restBy_0 rfl ?_
    refine zk_bipush (v := -9) hX dX10_restBy_1 (by decide) ?_
    refine zk_icmp_ne (tgt := 10) hX dX10_restBy_3 (by decide) (fun c3 => ?_) (fun c3 => ?_)
    · exact absurd c3 (fun q => q rfl)
    refine zk_iconst (v := 0) hX dX10_restBy_6 (by decide) ?_
    refine zk_goto (tgt := 18) hX dX10_restBy_7 (by decide) ?_
    refine zk_aload_n hX dX10_restBy_18 rfl ?_
    refine zk_getR hX dX10_restBy_19 flX10_29 k_147 z_147 (hw _ _ (by decide) |>.trans r_147_7) ?_
    refine zk_iload_n hX dX10_restBy_22 rfl ?_
    refine zk_iconst (v := 1) hX dX10_restBy_23 (by decide) ?_
    refine zk_iload_n hX dX10_restBy_24 rfl ?_
    rw [show (1 : Int32) = nI 1 from rfl]
    refine zk_ishl hX dX10_restBy_25 ?_
    rw [nI_shl _ (by omega)]
    refine zk_ior hX dX10_restBy_26 ?_
    rw [nI_or]
    refine zk_bipush (v := 8) hX dX10_restBy_27 (by decide) ?_
    refine zk_imul hX dX10_restBy_29 ?_
    refine zk_iload_n hX dX10_restBy_30 rfl ?_
    refine zk_iadd hX dX10_restBy_31 ?_
    refine zk_ialdE hX dX10_restBy_32 (nI_addE (nI_mulE rfl (nI_k 8 rfl)) rfl) k_161 z_161 (by first | assumption | omega) rfl ?_
    rw [ht]
    refine zk_iadd hX dX10_restBy_33 ?_
    refine zk_iret hX hE rfl ⟨rfl, rfl⟩ dX10_restBy_34 ⟨_, rfl, ?_⟩
    refine ⟨?_, rfl⟩
    rw [Int32.zero_add]
    show nI _ = nI (0 + _)
    rw [Nat.zero_add]
  | some l =>
    obtain ⟨hl, hB⟩ := h.1 l rfl
    have hbx := hB x hx
    refine zC_of (lo := [_, _, _, _]) kcX10_restBy (Nat.le_of_ble_eq_true rfl) rfl (fun X hX hE => ?_)
    refine zk_iload_n hX dX10_restBy_0 rfl ?_
    refine zk_bipush (v := -9) hX dX10_restBy_1 (by decide) ?_
    refine zk_icmp_ne (tgt := 10) hX dX10_restBy_3 (by decide) (fun c3 => ?_) (fun c3 => ?_)
    rotate_left
    · exact absurd c3 (nI_n9 (by omega))
    refine zk_aload_n hX dX10_restBy_10 rfl ?_
    refine zk_getR hX dX10_restBy_11 flX10_26 k_147 z_147 (hw _ _ (by decide) |>.trans r_147_6) ?_
    refine zk_iload_n hX dX10_restBy_14 rfl ?_
    refine zk_between hX hw dX10_restBy_15 rfl (by first | assumption | omega) ?_
    refine zk_iload_n hX dX10_restBy_16 rfl ?_
    refine zk_ialdE hX dX10_restBy_17 rfl (show 153 + _ < 202 by omega) (zBtz _ (by first | assumption | omega)) (by first | assumption | omega) rfl ?_
    rw [hbx]
    refine zk_aload_n hX dX10_restBy_18 rfl ?_
    refine zk_getR hX dX10_restBy_19 flX10_29 k_147 z_147 (hw _ _ (by decide) |>.trans r_147_7) ?_
    refine zk_iload_n hX dX10_restBy_22 rfl ?_
    refine zk_iconst (v := 1) hX dX10_restBy_23 (by decide) ?_
    refine zk_iload_n hX dX10_restBy_24 rfl ?_
    rw [show (1 : Int32) = nI 1 from rfl]
    refine zk_ishl hX dX10_restBy_25 ?_
    rw [nI_shl _ (by omega)]
    refine zk_ior hX dX10_restBy_26 ?_
    rw [nI_or]
    refine zk_bipush (v := 8) hX dX10_restBy_27 (by decide) ?_
    refine zk_imul hX dX10_restBy_29 ?_
    refine zk_iload_n hX dX10_restBy_30 rfl ?_
    refine zk_iadd hX dX10_restBy_31 ?_
    refine zk_ialdE hX dX10_restBy_32 (nI_addE (nI_mulE rfl (nI_k 8 rfl)) rfl) k_161 z_161 (by first | assumption | omega) rfl ?_
    rw [ht]
    refine zk_iadd hX dX10_restBy_33 ?_
    refine zk_iret hX hE rfl ⟨rfl, rfl⟩ dX10_restBy_34 ⟨_, rfl, ?_⟩
    exact ⟨nI_add _ _, rfl⟩
theorem s_X10_leastRest {G : zG} {w : zW} {s d : Nat} {last : Option Nat} {B T : Nat → Nat → Nat} (hw : zWf w) (hs8 : s ≤ 8) (hs : w.1 147 3 = nI s) (hd : d < 256) (h : oHas w s B T d last) : zEi G mX10_leastRest [.ref 147, .int (nI d), .int (zoe last)] w (nI (oV s B T d last)) w := by
  refine zC_of (lo := [_, _, _, _, _]) kcX10_leastRest (Nat.le_of_ble_eq_true rfl) rfl (fun X hX hE => ?_)
  have loop : ∀ m i, i + m = s → zk0 G X mX10_leastRest 6 [.ref 147, .int (nI d), .int (zoe last), .int (nI (oMin (oP d) (oG B T d last) i)), .int (nI i)] [] w := by
    intro m
    induction m with
    | zero =>
      intro i hi
      obtain rfl : i = s := by omega
      refine zk_iload hX dX10_leastRest_6 rfl ?_
      refine zk_aload_n hX dX10_leastRest_8 rfl ?_
      refine zk_getI hX dX10_leastRest_9 flX10_72 k_147 z_147 ?_
      refine zk_icmp_ge (tgt := 43) hX dX10_leastRest_12 (by decide) (fun c12 => ?_) (fun c12 => ?_)
      rotate_left
      · exact absurd (by rw [hs]; exact nI_le (Nat.le_refl _) (by omega)) c12
      refine zk_iload_n hX dX10_leastRest_43 rfl ?_
      refine zk_iret hX hE rfl ⟨rfl, rfl⟩ dX10_leastRest_44 ⟨_, rfl, ?_⟩
      exact ⟨rfl, rfl⟩
    | succ m ih =>
      intro i hi
      have h9 := ih (i + 1) (by omega)
      by_cases q : d.testBit i = true
      · have hb : nI (d >>> i) &&& 1 = 1 := by rw [bit1, if_pos q]
        rw [oMin_f (fun z => by rw [oP_t, q] at z; cases z)] at h9
        refine zk_iload hX dX10_leastRest_6 rfl ?_
        refine zk_aload_n hX dX10_leastRest_8 rfl ?_
        refine zk_getI hX dX10_leastRest_9 flX10_72 k_147 z_147 ?_
        refine zk_icmp_ge (tgt := 43) hX dX10_leastRest_12 (by decide) (fun c12 => ?_) (fun c12 => ?_)
        · exact absurd c12 (by rw [hs]; exact nI_ge (by omega) (by omega))
        refine zk_iload_n hX dX10_leastRest_15 rfl ?_
        refine zk_iload hX dX10_leastRest_16 rfl ?_
        refine zk_ishr hX dX10_leastRest_18 ?_
        rw [nI_shr (by omega) (by omega)]
        refine zk_iconst (v := 1) hX dX10_leastRest_19 (by decide) ?_
        refine zk_iand hX dX10_leastRest_20 ?_
        rw [hb]
        refine zk_if_ne (tgt := 37) hX dX10_leastRest_21 (by decide) (fun c21 => ?_) (fun c21 => ?_)
        rotate_left
        · exact absurd c21 (by decide)
        refine zk_iinc (lo' := [_, _, _, _, _]) hX dX10_leastRest_37 rfl (by first | exact zinc _ | exact rfl) (Nat.le_of_ble_eq_true rfl) rfl rfl ?_
        refine zk_goto (tgt := 6) hX dX10_leastRest_40 (by decide) ?_
        exact h9
      · have q0 : d.testBit i = false := Bool.eq_false_iff.mpr q
        have hb : nI (d >>> i) &&& 1 = 0 := by rw [bit1, if_neg q]
        rw [oMin_t (oP_t.mpr q0)] at h9
        have l1 := oMin_le (oP d) (oG B T d last) i
        have l2 := h.2.2 i (by omega) q0
        rw [← minI (by omega) (by omega)] at h9
        refine zk_iload hX dX10_leastRest_6 rfl ?_
        refine zk_aload_n hX dX10_leastRest_8 rfl ?_
        refine zk_getI hX dX10_leastRest_9 flX10_72 k_147 z_147 ?_
        refine zk_icmp_ge (tgt := 43) hX dX10_leastRest_12 (by decide) (fun c12 => ?_) (fun c12 => ?_)
        · exact absurd c12 (by rw [hs]; exact nI_ge (by omega) (by omega))
        refine zk_iload_n hX dX10_leastRest_15 rfl ?_
        refine zk_iload hX dX10_leastRest_16 rfl ?_
        refine zk_ishr hX dX10_leastRest_18 ?_
        rw [nI_shr (by omega) (by omega)]
        refine zk_iconst (v := 1) hX dX10_leastRest_19 (by decide) ?_
        refine zk_iand hX dX10_leastRest_20 ?_
        rw [hb]
        refine zk_if_ne (tgt := 37) hX dX10_leastRest_21 (by decide) (fun c21 => ?_) (fun c21 => ?_)
        · exact absurd c21 (fun z => z rfl)
        refine zk_iload_n hX dX10_leastRest_24 rfl ?_
        refine zk_aload_n hX dX10_leastRest_25 rfl ?_
        refine zk_iload_n hX dX10_leastRest_26 rfl ?_
        refine zk_iload_n hX dX10_leastRest_27 rfl ?_
        refine zk_iload hX dX10_leastRest_28 rfl ?_
        refine zk_V3i hX dX10_leastRest_30 kcX10_restBy mlX10_87 viX10_restBy rfl k_147 z_147 (s_X10_restBy hw hs8 hd (by omega) q0 h) (Nat.le_of_ble_eq_true rfl) rfl ?_
        refine zk_mmin hX dX10_leastRest_33 mlX10_91 ⟨rfl, rfl⟩ ?_
        refine zk_istore_n (lo' := [_, _, _, _, _]) hX dX10_leastRest_36 (Nat.le_of_ble_eq_true rfl) rfl rfl ?_
        refine zk_iinc (lo' := [_, _, _, _, _]) hX dX10_leastRest_37 rfl (by first | exact zinc _ | exact rfl) (Nat.le_of_ble_eq_true rfl) rfl rfl ?_
        refine zk_goto (tgt := 6) hX dX10_leastRest_40 (by decide) ?_
        exact h9
  refine zk_ldc hX dX10_leastRest_0 cnX10_79 ?_
  refine zk_istore_n (lo' := [_, _, _, _, _]) hX dX10_leastRest_2 (Nat.le_of_ble_eq_true rfl) rfl rfl ?_
  refine zk_iconst (v := 0) hX dX10_leastRest_3 (by decide) ?_
  refine zk_istore (lo' := [_, _, _, _, _]) hX dX10_leastRest_4 (Nat.le_of_ble_eq_true rfl) rfl rfl ?_
  exact loop s 0 (by omega)
theorem s_X10_firstNext {G : zG} {w : zW} {s d : Nat} {last : Option Nat} {B T : Nat → Nat → Nat} (hw : zWf w) (hs8 : s ≤ 8) (hs : w.1 147 3 = nI s) (hd : d < 256) (h : oHas w s B T d last) (hv : oV s B T d last < 1000000) : zCi G mX10_firstNext [.ref 147, .int (nI d), .int (zoe last)] w (fun r w' => w' = w ∧ ∃ x, r = nI x ∧ oFirst s B T d last x) := by
  obtain ⟨x0, hx0, hp0⟩ := oFirst_ex hv
  have ep : ∀ j, oPick s B T d last j = true ↔ (d.testBit j = false ∧ oG B T d last j = oV s B T d last) := fun j => oPick_t
  generalize ev : oV s B T d last = V at *
  have cl : zEi G mX10_leastRest [.ref 147, .int (nI d), .int (zoe last)] w (nI V) w := by rw [← ev]; exact s_X10_leastRest hw hs8 hs hd h
  refine zC_of (lo := [_, _, _, _, _]) kcX10_firstNext (Nat.le_of_ble_eq_true rfl) rfl (fun X hX hE => ?_)
  have loop : ∀ m i, i + m = s → (∀ j, j < i → ¬ oPick s B T d last j = true) → zk0 G X mX10_firstNext 10 [.ref 147, .int (nI d), .int (zoe last), .int (nI V), .int (nI i)] [] w := by
    intro m
    induction m with
    | zero =>
      intro i hi hn
      exact absurd hp0 (hn x0 (by omega))
    | succ m ih =>
      intro i hi hn
      have h9 : ¬ oPick s B T d last i = true → zk0 G X mX10_firstNext 10 [.ref 147, .int (nI d), .int (zoe last), .int (nI V), .int (nI (i + 1))] [] w := fun q => ih (i + 1) (by omega) (fun j hj => by
        rcases Nat.lt_succ_iff_lt_or_eq.mp hj with g | rfl
        · exact hn j g
        · exact q)
      by_cases q : d.testBit i = true
      · have hb : nI (d >>> i) &&& 1 = 1 := by rw [bit1, if_pos q]
        refine zk_iload hX dX10_firstNext_10 rfl ?_
        refine zk_aload_n hX dX10_firstNext_12 rfl ?_
        refine zk_getI hX dX10_firstNext_13 flX10_72 k_147 z_147 ?_
        refine zk_icmp_ge (tgt := 49) hX dX10_firstNext_16 (by decide) (fun c16 => ?_) (fun c16 => ?_)
        · exact absurd c16 (by rw [hs]; exact nI_ge (by omega) (by omega))
        refine zk_iload_n hX dX10_firstNext_19 rfl ?_
        refine zk_iload hX dX10_firstNext_20 rfl ?_
        refine zk_ishr hX dX10_firstNext_22 ?_
        rw [nI_shr (by omega) (by omega)]
        refine zk_iconst (v := 1) hX dX10_firstNext_23 (by decide) ?_
        refine zk_iand hX dX10_firstNext_24 ?_
        rw [hb]
        refine zk_if_ne (tgt := 43) hX dX10_firstNext_25 (by decide) (fun c25 => ?_) (fun c25 => ?_)
        rotate_left
        · exact absurd c25 (by decide)
        refine zk_iinc (lo' := [_, _, _, _, _]) hX dX10_firstNext_43 rfl (by first | exact zinc _ | exact rfl) (Nat.le_of_ble_eq_true rfl) rfl rfl ?_
        refine zk_goto (tgt := 10) hX dX10_firstNext_46 (by decide) ?_
        exact h9 (fun z => by rw [(ep i).mp z |>.1] at q; cases q)
      · have q0 : d.testBit i = false := Bool.eq_false_iff.mpr q
        have hb : nI (d >>> i) &&& 1 = 0 := by rw [bit1, if_neg q]
        have l2 := h.2.2 i (by omega) q0
        refine zk_iload hX dX10_firstNext_10 rfl ?_
        refine zk_aload_n hX dX10_firstNext_12 rfl ?_
        refine zk_getI hX dX10_firstNext_13 flX10_72 k_147 z_147 ?_
        refine zk_icmp_ge (tgt := 49) hX dX10_firstNext_16 (by decide) (fun c16 => ?_) (fun c16 => ?_)
        · exact absurd c16 (by rw [hs]; exact nI_ge (by omega) (by omega))
        refine zk_iload_n hX dX10_firstNext_19 rfl ?_
        refine zk_iload hX dX10_firstNext_20 rfl ?_
        refine zk_ishr hX dX10_firstNext_22 ?_
        rw [nI_shr (by omega) (by omega)]
        refine zk_iconst (v := 1) hX dX10_firstNext_23 (by decide) ?_
        refine zk_iand hX dX10_firstNext_24 ?_
        rw [hb]
        refine zk_if_ne (tgt := 43) hX dX10_firstNext_25 (by decide) (fun c25 => ?_) (fun c25 => ?_)
        · exact absurd c25 (fun z => z rfl)
        refine zk_aload_n hX dX10_firstNext_28 rfl ?_
        refine zk_iload_n hX dX10_firstNext_29 rfl ?_
        refine zk_iload_n hX dX10_firstNext_30 rfl ?_
        refine zk_iload hX dX10_firstNext_31 rfl ?_
        refine zk_V3i hX dX10_firstNext_33 kcX10_restBy mlX10_87 viX10_restBy rfl k_147 z_147 (s_X10_restBy hw hs8 hd (by omega) q0 h) (Nat.le_of_ble_eq_true rfl) rfl ?_
        refine zk_iload_n hX dX10_firstNext_36 rfl ?_
        refine zk_icmp_ne (tgt := 43) hX dX10_firstNext_37 (by decide) (fun c37 => ?_) (fun c37 => ?_)
        · refine zk_iinc (lo' := [_, _, _, _, _]) hX dX10_firstNext_43 rfl (by first | exact zinc _ | exact rfl) (Nat.le_of_ble_eq_true rfl) rfl rfl ?_
          refine zk_goto (tgt := 10) hX dX10_firstNext_46 (by decide) ?_
          exact h9 (fun z => c37 (by rw [((ep i).mp z).2]))
        · refine zk_iload hX dX10_firstNext_40 rfl ?_
          refine zk_iret hX hE rfl ⟨rfl, rfl⟩ dX10_firstNext_42 ⟨_, rfl, ?_⟩
          refine ⟨rfl, i, rfl, by omega, (ep i).mpr ⟨q0, nI_inj (by omega) (by omega) (by first | exact c37 | exact Decidable.not_not.mp c37)⟩, hn⟩
  refine zk_aload_n hX dX10_firstNext_0 rfl ?_
  refine zk_iload_n hX dX10_firstNext_1 rfl ?_
  refine zk_iload_n hX dX10_firstNext_2 rfl ?_
  refine zk_V2i hX dX10_firstNext_3 kcX10_leastRest mlX10_80 viX10_leastRest rfl k_147 z_147 cl (Nat.le_of_ble_eq_true rfl) rfl ?_
  refine zk_istore_n (lo' := [_, _, _, _, _]) hX dX10_firstNext_6 (Nat.le_of_ble_eq_true rfl) rfl rfl ?_
  refine zk_iconst (v := 0) hX dX10_firstNext_7 (by decide) ?_
  refine zk_istore (lo' := [_, _, _, _, _]) hX dX10_firstNext_8 (Nat.le_of_ble_eq_true rfl) rfl rfl ?_
  exact loop s 0 (by omega) (fun j hj => absurd hj (by omega))
theorem s_X10_putInOrder {G : zG} {w : zW} {s : Nat} {B T : Nat → Nat → Nat} {st : Nat → Nat} (hw : zWf w) (hs8 : s ≤ 8) (hs : w.1 147 3 = nI s) (hR : oRec s B T 0) (hB : ∀ i k, i < s → k < s → B i k ≤ 1000000) (hbC : ∀ i k, i < s → k < s → w.1 (153 + i) k = nI (B i k)) (htC : ∀ d, 0 < d → d ≤ oAll s → ∀ l, l < s → w.1 161 (d * 8 + l) = nI (T d l)) (h0 : oV s B T 0 none < 1000000) (hst : ∀ i, i < s → w.1 150 i = nI (st i)) :
    zCv G mX10_putInOrder [.ref 147] w (fun w' => zFr [162] [] [] w w' ∧ ∃ X, oSeq s B T X s ∧ ∀ n, n < s → w'.1 162 n = nI (st (X n))) := by
  have hs9 := oAll_8 hs8
  refine zC_of (lo := [_, _, _, _, _]) kcX10_putInOrder (Nat.le_of_ble_eq_true rfl) rfl (fun X hX hE => ?_)
  have loop : ∀ m n w1 Y (a4 : Value), n + m = s → zFr [162] [] [] w w1 → oSeq s B T Y n → (∀ j, j < n → w1.1 162 j = nI (st (Y j))) → zk0 G X mX10_putInOrder 7 [.ref 147, .int (nI (oSet Y n)), .int (zoe (oLast Y n)), .int (nI n), a4] [] w1 := by
    intro m
    induction m with
    | zero =>
      intro n w1 Y a4 hn hF hS hI
      obtain rfl : n = s := by omega
      have hw1 := zFr_wf hF hw
      refine zk_iload_n hX dX10_putInOrder_7 rfl ?_
      refine zk_aload_n hX dX10_putInOrder_8 rfl ?_
      refine zk_getI hX dX10_putInOrder_9 flX10_72 k_147 z_147 ?_
      refine zk_icmp_ge (tgt := 52) hX dX10_putInOrder_12 (by decide) (fun c12 => ?_) (fun c12 => ?_)
      rotate_left
      · exact absurd (by rw [hF.2.1 147 (by decide) (by decide), hs]; exact nI_le (Nat.le_refl _) (by omega)) c12
      refine zk_vret hX hE rfl ⟨rfl, rfl⟩ dX10_putInOrder_52 ⟨rfl, ?_⟩
      exact ⟨hF, Y, hS, hI⟩
    | succ m ih =>
      intro n w1 Y a4 hn hF hS hI
      have hw1 := zFr_wf hF hw
      have hcnt := oSet_cnt (X := Y) (s := s) (n := n) (fun i hi => ⟨(hS i hi).1, (oPick_t.mp (hS i hi).2.1).1⟩)
      have hlast : ∀ l, oLast Y n = some l → l < s := fun l hl => by
        cases n with
        | zero => cases hl
        | succ n =>
          cases hl
          exact (hS n (by omega)).1
      have hH : oHas w1 s B T (oSet Y n) (oLast Y n) := by
        refine ⟨fun l hl => ⟨by have := hlast l hl; omega, fun x hx => ?_⟩, fun x hx hb => ?_, fun x hx hb => ?_⟩
        · have := hlast l hl
          rw [hF.2.1 (153 + l) (by simp; omega) (by omega)]
          exact hbC l x this hx
        · rw [hF.2.1 161 (by decide) (by decide)]
          exact htC _ (by have := oAdd_gt hb; omega) (oAdd_le hcnt.2 hx) x hx
        · have a1 := oRec_le hR hB (d := oSet Y n ||| 1 <<< x) (by have := oAdd_gt hb; omega) (oAdd_le hcnt.2 hx) hx
          have a2 : oBo B (oLast Y n) x ≤ 1000000 := by
            cases e : oLast Y n with
            | none => exact Nat.zero_le _
            | some l => exact hB l x (hlast l e) hx
          show oBo B (oLast Y n) x + T (oSet Y n ||| 1 <<< x) x < 3000000
          omega
      have cf := s_X10_firstNext (G := G) hw1 hs8 (by rw [hF.2.1 147 (by decide) (by decide)]; exact hs) (by omega) hH (oSeq_lt hR h0 hS (by omega))
      have est : ∀ x, x < s → w1.1 150 x = nI (st x) := fun x hx => by rw [hF.2.1 150 (by decide) (by decide)]; exact hst x hx
      refine zk_iload_n hX dX10_putInOrder_7 rfl ?_
      refine zk_aload_n hX dX10_putInOrder_8 rfl ?_
      refine zk_getI hX dX10_putInOrder_9 flX10_72 k_147 z_147 ?_
      refine zk_icmp_ge (tgt := 52) hX dX10_putInOrder_12 (by decide) (fun c12 => ?_) (fun c12 => ?_)
      · exact absurd c12 (by rw [hF.2.1 147 (by decide) (by decide), hs]; exact nI_ge (by omega) (by omega))
      refine zk_aload_n hX dX10_putInOrder_15 rfl ?_
      refine zk_iload_n hX dX10_putInOrder_16 rfl ?_
      refine zk_iload_n hX dX10_putInOrder_17 rfl ?_
      refine zk_V2ip hX dX10_putInOrder_18 kcX10_firstNext mlX10_96 viX10_firstNext rfl k_147 z_147 cf (Nat.le_of_ble_eq_true rfl) rfl (fun r2 w2 q2 => ?_)
      obtain ⟨rfl, x, rfl, hx⟩ := q2
      have hx8 := hx.1
      refine zk_istore (lo' := [_, _, _, _, _]) hX dX10_putInOrder_21 (Nat.le_of_ble_eq_true rfl) rfl rfl ?_
      refine zk_aload_n hX dX10_putInOrder_23 rfl ?_
      refine zk_getR hX dX10_putInOrder_24 flX10_32 k_147 z_147 (hw1 _ _ (by decide) |>.trans r_147_8) ?_
      refine zk_iload_n hX dX10_putInOrder_27 rfl ?_
      refine zk_aload_n hX dX10_putInOrder_28 rfl ?_
      refine zk_getR hX dX10_putInOrder_29 flX10_18 k_147 z_147 (hw1 _ _ (by decide) |>.trans r_147_4) ?_
      refine zk_iload hX dX10_putInOrder_32 rfl ?_
      refine zk_ialdE hX dX10_putInOrder_34 rfl k_150 z_150 (by first | assumption | omega) rfl ?_
      rw [est x hx8]
      refine zk_iastE hX dX10_putInOrder_35 rfl k_162 z_162 (by first | assumption | omega) rfl ?_
      refine zk_iload_n hX dX10_putInOrder_36 rfl ?_
      refine zk_iconst (v := 1) hX dX10_putInOrder_37 (by decide) ?_
      rw [show (1 : Int32) = nI 1 from rfl]
      refine zk_iload hX dX10_putInOrder_38 rfl ?_
      refine zk_ishl hX dX10_putInOrder_40 ?_
      rw [nI_shl _ (by omega)]
      refine zk_ior hX dX10_putInOrder_41 ?_
      rw [nI_or]
      refine zk_istore_n (lo' := [_, _, _, _, _]) hX dX10_putInOrder_42 (Nat.le_of_ble_eq_true rfl) rfl rfl ?_
      refine zk_iload hX dX10_putInOrder_43 rfl ?_
      refine zk_istore_n (lo' := [_, _, _, _, _]) hX dX10_putInOrder_45 (Nat.le_of_ble_eq_true rfl) rfl rfl ?_
      refine zk_iinc (lo' := [_, _, _, _, _]) hX dX10_putInOrder_46 rfl (by first | exact zinc _ | exact rfl) (Nat.le_of_ble_eq_true rfl) rfl rfl ?_
      refine zk_goto (tgt := 7) hX dX10_putInOrder_49 (by decide) ?_
      have eY : ∀ i, i < n → Y i = (fun i => if i = n then x else Y i) i := fun i hi => by simp [show ¬ i = n by omega]
      have e1 : oSet (fun i => if i = n then x else Y i) n = oSet Y n := (oSet_c eY).symm
      have e2 : oLast (fun i => if i = n then x else Y i) n = oLast Y n := by
        cases n with
        | zero => rfl
        | succ n => show some (if n = n + 1 then x else Y n) = some (Y n); rw [if_neg (by omega)]
      have e3 : (fun i => if i = n then x else Y i) n = x := if_pos rfl
      have h9 := ih (n + 1) (zsi w2 162 n (nI (st x))) (fun i => if i = n then x else Y i) (.int (nI x)) (by omega) (zFr_t hF (zFr_i (by decide) (by decide))) (fun i hi => ?_) (fun j hj => ?_)
      · rw [show oSet (fun i => if i = n then x else Y i) (n + 1) = oSet Y n ||| 1 <<< x by show oSet (fun i => if i = n then x else Y i) n ||| 1 <<< ((fun i => if i = n then x else Y i) n) = _; rw [e1, e3], show oLast (fun i => if i = n then x else Y i) (n + 1) = some x by show some ((fun i => if i = n then x else Y i) n) = _; rw [e3]] at h9
        exact h9
      · by_cases e : i = n
        · rw [e, e1, e2, e3]
          exact hx
        · have ei : i < n := by omega
          have f1 : oSet (fun i => if i = n then x else Y i) i = oSet Y i := oSet_c (fun j hj => by simp [show ¬ j = n by omega])
          have f2 : oLast (fun i => if i = n then x else Y i) i = oLast Y i := by
            cases i with
            | zero => rfl
            | succ i => show some (if i = n then x else Y i) = some (Y i); rw [if_neg (by omega)]
          have f3 : (fun i => if i = n then x else Y i) i = Y i := if_neg e
          rw [f1, f2, f3]
          exact hS i ei
      · rw [zsi_1]
        by_cases e : j = n
        · rw [if_pos ⟨rfl, e⟩, e, if_pos rfl]
        · rw [if_neg (fun z => e z.2), if_neg e]
          exact hI j (by omega)
  refine zk_iconst (v := 0) hX dX10_putInOrder_0 (by decide) ?_
  refine zk_istore_n (lo' := [_, _, _, _, _]) hX dX10_putInOrder_1 (Nat.le_of_ble_eq_true rfl) rfl rfl ?_
  refine zk_bipush (v := -9) hX dX10_putInOrder_2 (by decide) ?_
  refine zk_istore_n (lo' := [_, _, _, _, _]) hX dX10_putInOrder_4 (Nat.le_of_ble_eq_true rfl) rfl rfl ?_
  refine zk_iconst (v := 0) hX dX10_putInOrder_5 (by decide) ?_
  refine zk_istore_n (lo' := [_, _, _, _, _]) hX dX10_putInOrder_6 (Nat.le_of_ble_eq_true rfl) rfl rfl ?_
  exact loop s 0 w (fun _ => 0) _ (by omega) zFr_r (fun i hi => absurd hi (by omega)) (fun j hj => absurd hj (by omega))
