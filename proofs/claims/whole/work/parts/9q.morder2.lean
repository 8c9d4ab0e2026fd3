/-! order: the model's call -/
theorem s_X12_order_b1 {G : zG} {w : zW} {n : Nat} (hw : zWf w) (hn : n ≤ 12) (hP : w.1 166 33 = nI n) (v r : Int32) (h : ¬ (1 ≤ v ∧ v < nI (2 ^ n))) : zEi G mX12_order [.ref 166, .int v, .int r] w (-1) w := by
  have h12 : 2 ^ n ≤ 2 ^ 12 := Nat.pow_le_pow_right (by decide) hn
  have hpos := Nat.two_pow_pos n
  have hl : nI (2 ^ n - 1) < nI (2 ^ n) := nI_lt (by omega) (by omega)
  have hb : ¬ (nI 1 ≤ v ∧ v ≤ nI (2 ^ n - 1)) := fun z => h ⟨z.1, by
    rw [zint_lt]
    have h1 := z.2
    rw [zint_le] at h1
    rw [zint_lt] at hl
    omega⟩
  refine zC_of (lo := [_, _, _, _, _, _]) kcX12_order (Nat.le_of_ble_eq_true rfl) rfl (fun X hX hE => ?_)
  refine zk_iload_n hX dX12_order_0 rfl ?_
  refine zk_iconst (v := 1) hX dX12_order_1 (by decide) ?_
  refine zk_iconst (v := 1) hX dX12_order_2 (by decide) ?_
  refine zk_aload_n hX dX12_order_3 rfl ?_
  refine zk_getI hX dX12_order_4 flX12_202 k_166 z_166 ?_
  rw [hP, show (1 : Int32) = nI 1 from rfl]
  refine zk_ishl hX dX12_order_7 ?_
  rw [nI_shl _ (by omega), Nat.one_shiftLeft]
  refine zk_iconst (v := 1) hX dX12_order_8 (by decide) ?_
  refine zk_isub hX dX12_order_9 ?_
  rw [show (1 : Int32) = nI 1 from rfl, nI_sub (by omega)]
  refine zk_S3i hX dX12_order_10 kcX12_in mlX12_131 smX12_in rfl (s_X12_in _ _ _) (Nat.le_of_ble_eq_true rfl) rfl ?_
  refine zk_if_eqB (tgt := 32) hX dX12_order_13 (by decide) (fun c13 => ?_) (fun c13 => ?_)
  rotate_left
  · exact absurd c13 hb
  refine zk_iconst (v := -1) hX dX12_order_32 (by decide) ?_
  refine zk_iret hX hE rfl ⟨rfl, rfl⟩ dX12_order_33 ⟨_, rfl, ?_⟩
  exact ⟨rfl, rfl⟩
theorem s_X12_order_pre {G : zG} {X : zX} {w : zW} {n a : Nat} (r : Int32) (hX : zH G X mX12_order) (hw : zWf w) (hn : n ≤ 12) (hP : w.1 166 33 = nI n) (ha : 1 ≤ a) (ha2 : a < 2 ^ n) (k1 : 8 < zcnt a.testBit n → zk0 G X mX12_order 32 [.ref 166, .int (nI a), .int r, .null, .null, .null] [] w) (k2 : zcnt a.testBit n ≤ 8 → zk0 G X mX12_order 25 [.ref 166, .int (nI a), .int r, .null, .null, .null] [] w) : zk0 G X mX12_order 0 [.ref 166, .int (nI a), .int r, .null, .null, .null] [] w := by
  have h12 : 2 ^ n ≤ 2 ^ 12 := Nat.pow_le_pow_right (by decide) hn
  have hc := zcnt_le a.testBit n
  refine zk_iload_n hX dX12_order_0 rfl ?_
  refine zk_iconst (v := 1) hX dX12_order_1 (by decide) ?_
  refine zk_iconst (v := 1) hX dX12_order_2 (by decide) ?_
  refine zk_aload_n hX dX12_order_3 rfl ?_
  refine zk_getI hX dX12_order_4 flX12_202 k_166 z_166 ?_
  rw [hP, show (1 : Int32) = nI 1 from rfl]
  refine zk_ishl hX dX12_order_7 ?_
  rw [nI_shl _ (by omega), Nat.one_shiftLeft]
  refine zk_iconst (v := 1) hX dX12_order_8 (by decide) ?_
  refine zk_isub hX dX12_order_9 ?_
  rw [show (1 : Int32) = nI 1 from rfl, nI_sub (by omega)]
  refine zk_S3i hX dX12_order_10 kcX12_in mlX12_131 smX12_in rfl (s_X12_in _ _ _) (Nat.le_of_ble_eq_true rfl) rfl ?_
  refine zk_if_eqB (tgt := 32) hX dX12_order_13 (by decide) (fun c13 => ?_) (fun c13 => ?_)
  · exact absurd c13 (not_not_intro ⟨nI_le ha (by omega), nI_le (by omega) (by omega)⟩)
  refine zk_iload_n hX dX12_order_16 rfl ?_
  refine zk_S1i hX dX12_order_17 kcX12_bits mlX12_266 smX12_bits rfl (s_X12_bits (by omega)) (Nat.le_of_ble_eq_true rfl) rfl ?_
  rw [zcnt_hi ha2 hn]
  refine zk_bipush (v := 8) hX dX12_order_20 (by decide) ?_
  refine zk_icmp_gt (tgt := 32) hX dX12_order_22 (by decide) (fun c22 => ?_) (fun c22 => ?_)
  · exact k1 (Decidable.byContradiction (fun z => nI_nlt (a := 8) (by omega) (by omega) c22))
  · exact k2 (Decidable.byContradiction (fun z => c22 (nI_lt (a := 8) (by omega) (by omega))))
theorem s_X12_order_b2 {G : zG} {w : zW} {n a : Nat} (hw : zWf w) (hn : n ≤ 12) (hP : w.1 166 33 = nI n) (ha : 1 ≤ a) (ha2 : a < 2 ^ n) (r : Int32) (h : ¬ (zcnt a.testBit n ≤ 8 ∧ 0 ≤ r ∧ r < 6)) : zEi G mX12_order [.ref 166, .int (nI a), .int r] w (-1) w := by
  refine zC_of (lo := [_, _, _, _, _, _]) kcX12_order (Nat.le_of_ble_eq_true rfl) rfl (fun X hX hE => ?_)
  refine s_X12_order_pre r hX hw hn hP ha ha2 (fun q => ?_) (fun q => ?_)
  · skip
    refine zk_iconst (v := -1) hX dX12_order_32 (by decide) ?_
    refine zk_iret hX hE rfl ⟨rfl, rfl⟩ dX12_order_33 ⟨_, rfl, ?_⟩
    exact ⟨rfl, rfl⟩
  · skip
    refine zk_iload_n hX dX12_order_25 rfl ?_
    refine zk_S1i hX dX12_order_26 kcX12_isRow mlX12_141 smX12_isRow rfl (s_X12_isRow _) (Nat.le_of_ble_eq_true rfl) rfl ?_
    refine zk_if_neB (tgt := 34) hX dX12_order_29 (by decide) (fun c29 => ?_) (fun c29 => ?_)
    · exact absurd c29 (fun z => h ⟨q, by grind⟩)
    refine zk_iconst (v := -1) hX dX12_order_32 (by decide) ?_
    refine zk_iret hX hE rfl ⟨rfl, rfl⟩ dX12_order_33 ⟨_, rfl, ?_⟩
    exact ⟨rfl, rfl⟩
def oHeld (a : Nat) (hk : Nat → Bool) : Nat → Bool
  | 0 => true
  | p + 1 => oHeld a hk p && (!a.testBit p || hk p)
theorem oHeld_ok {a : Nat} {hk : Nat → Bool} : ∀ {n : Nat}, oHeld a hk n = true ↔ ∀ p, p < n → a.testBit p = true → hk p = true
  | 0 => ⟨fun _ p hp => absurd hp (by omega), fun _ => rfl⟩
  | n + 1 => by
    show (oHeld a hk n && (!a.testBit n || hk n)) = true ↔ _
    rw [Bool.and_eq_true, oHeld_ok, Bool.or_eq_true, Bool.not_eq_true']
    constructor
    · rintro ⟨h1, h2⟩ p hp hb
      rcases Nat.lt_succ_iff_lt_or_eq.mp hp with g | rfl
      · exact h1 p g hb
      · exact h2.resolve_left (by rw [hb]; decide)
    · intro h
      refine ⟨fun p hp hb => h p (by omega) hb, ?_⟩
      cases hb : a.testBit n with
      | false => exact Or.inl rfl
      | true => exact Or.inr (h n (by omega) hb)
def mHk (w : zW) (p : Nat) : Bool := decide (w.1 183 (3 * p) = 1 ∨ w.1 183 (3 * p) = 4 ∨ w.1 183 (3 * p) = 5)
theorem s_X12_order_held {G : zG} {X : zX} {w : zW} {n a r : Nat} (hX : zH G X mX12_order) (hw : zWf w) (hn : n ≤ 12) (hP : w.1 166 33 = nI n) (ha2 : a < 2 ^ n) (ha1 : 1 ≤ a) (h8 : zcnt a.testBit n ≤ 8) (hr : r < 6)
    (k : ∀ w1 (i : Int32), zFr [197] [] [49] w w1 → w1.1 166 49 = nI (zcnt a.testBit n) → (∀ q, q < zcnt a.testBit n → w1.1 197 q = nI (oSel a n q)) → zk0 G X mX12_order 108 [.ref 166, .int (nI a), .int (nI r), .int (zb (oHeld a (mHk w) n = true)), .int i, .null] [] w1) : zk0 G X mX12_order 0 [.ref 166, .int (nI a), .int (nI r), .null, .null, .null] [] w := by
  have h12 : 2 ^ n ≤ 2 ^ 12 := Nat.pow_le_pow_right (by decide) hn
  have loop : ∀ m i w1, i + m = n → zFr [197] [] [49] w w1 → w1.1 166 49 = nI (zcnt a.testBit i) → (∀ q, q < zcnt a.testBit i → w1.1 197 q = nI (oSel a i q)) → zk0 G X mX12_order 44 [.ref 166, .int (nI a), .int (nI r), .int (zb (oHeld a (mHk w) i = true)), .int (nI i), .null] [] w1 := by
    intro m
    induction m with
    | zero =>
      intro i w1 hi hF h49 hst
      obtain rfl : i = n := by omega
      refine zk_iload hX dX12_order_44 rfl ?_
      refine zk_aload_n hX dX12_order_46 rfl ?_
      refine zk_getI hX dX12_order_47 flX12_202 k_166 z_166 ?_
      refine zk_icmp_ge (tgt := 108) hX dX12_order_50 (by decide) (fun c50 => ?_) (fun c50 => ?_)
      rotate_left
      · exact absurd (by rw [hF.2.2.2 33 (by decide), hP]; exact nI_le (Nat.le_refl _) (by omega)) c50
      exact k w1 _ hF h49 hst
    | succ m ih =>
      intro i w1 hi hF h49 hst
      have hw1 := zFr_wf hF hw
      have h9 := fun w2 => ih (i + 1) w2 (by omega)
      have ch := s_X12_has (G := G) (w := w1) (d := a) (x := i) (by omega) (by omega)
      by_cases q : a.testBit i = true
      · have hlt : zcnt a.testBit i < 8 := by
          have h1 : zcnt a.testBit (i + 1) ≤ zcnt a.testBit n := zcnt_up (by omega)
          rw [zcnt_t q] at h1
          omega
        rw [zcnt_t q] at h9
        have e1 : w1.1 183 = w.1 183 := hF.2.1 183 (by decide) (by decide)
        have hw2 : zWf (zsi w1 197 (zcnt a.testBit i) (nI i)) := zWf_i hw1
        have e2 : (zsi w1 197 (zcnt a.testBit i) (nI i)).1 166 49 = nI (zcnt a.testBit i) := by rw [zsi_o (by decide)]; exact h49
        have nx : ∀ y : Int32, y = zb (oHeld a (mHk w) (i + 1) = true) → zk0 G X mX12_order 81 [.ref 166, .int (nI a), .int (nI r), .int y, .int (nI i), .null] [] w1 := by
          intro y hy
          have h8 := h9 (zsi (zsi w1 197 (zcnt a.testBit i) (nI i)) 166 49 (nI (zcnt a.testBit i + 1))) (zFr_t hF (zFr_t (zFr_i (by decide) (by decide)) (zFr_m (by decide)))) (by rw [zsi_1, if_pos ⟨rfl, rfl⟩]) (fun y hy => by
            rw [zsi_o (by decide), zsi_1, oSel_t q]
            by_cases e : y = zcnt a.testBit i
            · rw [if_pos ⟨rfl, e⟩, if_pos e]
            · rw [if_neg (fun z => e z.2), if_neg e]
              exact hst y (by omega))
          rw [← hy] at h8
          refine zk_aload_n hX dX12_order_81 rfl ?_
          refine zk_getR hX dX12_order_82 flX12_102 k_166 z_166 (hw1 _ _ (by decide) |>.trans r_166_50) ?_
          refine zk_aload_n hX dX12_order_85 rfl ?_
          refine zk_getI hX dX12_order_86 flX12_368 k_166 z_166 ?_
          rw [h49]
          refine zk_iload hX dX12_order_89 rfl ?_
          refine zk_iastE hX dX12_order_91 rfl k_197 z_197 (by first | assumption | omega) rfl ?_
          refine zk_aload_n hX dX12_order_92 rfl ?_
          refine zk_dup hX dX12_order_93 rfl ?_
          refine zk_getI hX dX12_order_94 flX12_368 k_166 z_166 ?_
          rw [e2]
          refine zk_iconst (v := 1) hX dX12_order_97 (by decide) ?_
          refine zk_iadd hX dX12_order_98 ?_
          rw [nI_1]
          refine zk_putI hX dX12_order_99 plX12_368 (fun h => by cases h) k_166 z_166 rfl rfl ?_
          refine zk_iinc (lo' := [_, _, _, _, _, _]) hX dX12_order_102 rfl (by first | exact zinc _ | exact rfl) (Nat.le_of_ble_eq_true rfl) rfl rfl ?_
          refine zk_goto (tgt := 44) hX dX12_order_105 (by decide) ?_
          exact h8
        refine zk_iload hX dX12_order_44 rfl ?_
        refine zk_aload_n hX dX12_order_46 rfl ?_
        refine zk_getI hX dX12_order_47 flX12_202 k_166 z_166 ?_
        refine zk_icmp_ge (tgt := 108) hX dX12_order_50 (by decide) (fun c50 => ?_) (fun c50 => ?_)
        · exact absurd c50 (by rw [hF.2.2.2 33 (by decide), hP]; exact nI_ge (by omega) (by omega))
        refine zk_iload_n hX dX12_order_53 rfl ?_
        refine zk_iload hX dX12_order_54 rfl ?_
        refine zk_S2i hX dX12_order_56 kcX12_has mlX12_372 smX12_has rfl ch (Nat.le_of_ble_eq_true rfl) rfl ?_
        refine zk_if_eqB (tgt := 102) hX dX12_order_59 (by decide) (fun c59 => ?_) (fun c59 => ?_)
        · exact absurd c59 (not_not_intro q)
        refine zk_iload_n hX dX12_order_62 rfl ?_
        refine zk_if_eqB (tgt := 79) hX dX12_order_63 (by decide) (fun c63 => ?_) (fun c63 => ?_)
        · refine zk_iconst (v := 0) hX dX12_order_79 (by decide) ?_
          refine zk_istore_n (lo' := [_, _, _, _, _, _]) hX dX12_order_80 (Nat.le_of_ble_eq_true rfl) rfl rfl ?_
          refine nx _ ?_
          first
            | (have c63' : oHeld a (mHk w) i = true := by first | exact c63 | exact Decidable.not_not.mp c63
               have c72' : w1.1 183 (3 * i) = 1 ∨ w1.1 183 (3 * i) = 4 ∨ w1.1 183 (3 * i) = 5 := by first | exact c72 | exact Decidable.not_not.mp c72
               rw [e1] at c72'
               refine zb_t' ?_
               show (oHeld a (mHk w) i && (!a.testBit i || mHk w i)) = true
               rw [c63', show mHk w i = true from decide_eq_true c72']
               simp)
            | (have c72' : ¬ (w1.1 183 (3 * i) = 1 ∨ w1.1 183 (3 * i) = 4 ∨ w1.1 183 (3 * i) = 5) := c72
               rw [e1] at c72'
               refine zb_f' ?_
               show ¬ (oHeld a (mHk w) i && (!a.testBit i || mHk w i)) = true
               rw [q, show mHk w i = false from decide_eq_false c72']
               simp)
            | (have c63' : oHeld a (mHk w) i = false := Bool.eq_false_iff.mpr c63
               refine zb_f' ?_
               show ¬ (oHeld a (mHk w) i && (!a.testBit i || mHk w i)) = true
               rw [c63']
               simp)
        · refine zk_aload_n hX dX12_order_66 rfl ?_
          refine zk_iload hX dX12_order_67 rfl ?_
          refine zk_V1i hX dX12_order_69 kcX12_isHeldPose mlX12_293 viX12_isHeldPose rfl k_166 z_166 (s_X12_isHeldPose hw1 (by omega)) (Nat.le_of_ble_eq_true rfl) rfl ?_
          refine zk_if_eqB (tgt := 79) hX dX12_order_72 (by decide) (fun c72 => ?_) (fun c72 => ?_)
          · refine zk_iconst (v := 0) hX dX12_order_79 (by decide) ?_
            refine zk_istore_n (lo' := [_, _, _, _, _, _]) hX dX12_order_80 (Nat.le_of_ble_eq_true rfl) rfl rfl ?_
            refine nx _ ?_
            first
              | (have c63' : oHeld a (mHk w) i = true := by first | exact c63 | exact Decidable.not_not.mp c63
                 have c72' : w1.1 183 (3 * i) = 1 ∨ w1.1 183 (3 * i) = 4 ∨ w1.1 183 (3 * i) = 5 := by first | exact c72 | exact Decidable.not_not.mp c72
                 rw [e1] at c72'
                 refine zb_t' ?_
                 show (oHeld a (mHk w) i && (!a.testBit i || mHk w i)) = true
                 rw [c63', show mHk w i = true from decide_eq_true c72']
                 simp)
              | (have c72' : ¬ (w1.1 183 (3 * i) = 1 ∨ w1.1 183 (3 * i) = 4 ∨ w1.1 183 (3 * i) = 5) := c72
                 rw [e1] at c72'
                 refine zb_f' ?_
                 show ¬ (oHeld a (mHk w) i && (!a.testBit i || mHk w i)) = true
                 rw [q, show mHk w i = false from decide_eq_false c72']
                 simp)
              | (have c63' : oHeld a (mHk w) i = false := Bool.eq_false_iff.mpr c63
                 refine zb_f' ?_
                 show ¬ (oHeld a (mHk w) i && (!a.testBit i || mHk w i)) = true
                 rw [c63']
                 simp)
          · refine zk_iconst (v := 1) hX dX12_order_75 (by decide) ?_
            refine zk_goto (tgt := 80) hX dX12_order_76 (by decide) ?_
            refine zk_istore_n (lo' := [_, _, _, _, _, _]) hX dX12_order_80 (Nat.le_of_ble_eq_true rfl) rfl rfl ?_
            refine nx _ ?_
            first
              | (have c63' : oHeld a (mHk w) i = true := by first | exact c63 | exact Decidable.not_not.mp c63
                 have c72' : w1.1 183 (3 * i) = 1 ∨ w1.1 183 (3 * i) = 4 ∨ w1.1 183 (3 * i) = 5 := by first | exact c72 | exact Decidable.not_not.mp c72
                 rw [e1] at c72'
                 refine zb_t' ?_
                 show (oHeld a (mHk w) i && (!a.testBit i || mHk w i)) = true
                 rw [c63', show mHk w i = true from decide_eq_true c72']
                 simp)
              | (have c72' : ¬ (w1.1 183 (3 * i) = 1 ∨ w1.1 183 (3 * i) = 4 ∨ w1.1 183 (3 * i) = 5) := c72
                 rw [e1] at c72'
                 refine zb_f' ?_
                 show ¬ (oHeld a (mHk w) i && (!a.testBit i || mHk w i)) = true
                 rw [q, show mHk w i = false from decide_eq_false c72']
                 simp)
              | (have c63' : oHeld a (mHk w) i = false := Bool.eq_false_iff.mpr c63
                 refine zb_f' ?_
                 show ¬ (oHeld a (mHk w) i && (!a.testBit i || mHk w i)) = true
                 rw [c63']
                 simp)
      · rw [zcnt_f q] at h9
        have e3 : oHeld a (mHk w) (i + 1) = oHeld a (mHk w) i := by
          show (oHeld a (mHk w) i && (!a.testBit i || mHk w i)) = _
          rw [Bool.eq_false_iff.mpr q]
          simp
        rw [e3] at h9
        refine zk_iload hX dX12_order_44 rfl ?_
        refine zk_aload_n hX dX12_order_46 rfl ?_
        refine zk_getI hX dX12_order_47 flX12_202 k_166 z_166 ?_
        refine zk_icmp_ge (tgt := 108) hX dX12_order_50 (by decide) (fun c50 => ?_) (fun c50 => ?_)
        · exact absurd c50 (by rw [hF.2.2.2 33 (by decide), hP]; exact nI_ge (by omega) (by omega))
        refine zk_iload_n hX dX12_order_53 rfl ?_
        refine zk_iload hX dX12_order_54 rfl ?_
        refine zk_S2i hX dX12_order_56 kcX12_has mlX12_372 smX12_has rfl ch (Nat.le_of_ble_eq_true rfl) rfl ?_
        refine zk_if_eqB (tgt := 102) hX dX12_order_59 (by decide) (fun c59 => ?_) (fun c59 => ?_)
        rotate_left
        · exact absurd c59 q
        refine zk_iinc (lo' := [_, _, _, _, _, _]) hX dX12_order_102 rfl (by first | exact zinc _ | exact rfl) (Nat.le_of_ble_eq_true rfl) rfl rfl ?_
        refine zk_goto (tgt := 44) hX dX12_order_105 (by decide) ?_
        exact h9 w1 hF h49 (fun y hy => by rw [oSel_f q]; exact hst y hy)
  refine s_X12_order_pre _ hX hw hn hP ha1 ha2 (fun q => absurd q (by omega)) (fun _ => ?_)
  have h0 := loop n 0 (zsi w 166 49 0) (by omega) (zFr_m (by decide)) (by rw [zsi_1, if_pos ⟨rfl, rfl⟩]; rfl) (fun q hq => absurd hq (by show ¬ q < 0; omega))
  rw [zb_t (show oHeld a (mHk w) 0 = true from rfl)] at h0
  refine zk_iload_n hX dX12_order_25 rfl ?_
  refine zk_S1i hX dX12_order_26 kcX12_isRow mlX12_141 smX12_isRow rfl (s_X12_isRow _) (Nat.le_of_ble_eq_true rfl) rfl ?_
  refine zk_if_neB (tgt := 34) hX dX12_order_29 (by decide) (fun c29 => ?_) (fun c29 => ?_)
  rotate_left
  · exact absurd (zrle (n := 5) (by omega)) c29
  refine zk_iconst (v := 1) hX dX12_order_34 (by decide) ?_
  refine zk_istore_n (lo' := [_, _, _, _, _, _]) hX dX12_order_35 (Nat.le_of_ble_eq_true rfl) rfl rfl ?_
  refine zk_aload_n hX dX12_order_36 rfl ?_
  refine zk_iconst (v := 0) hX dX12_order_37 (by decide) ?_
  refine zk_putI hX dX12_order_38 plX12_368 (fun h => by cases h) k_166 z_166 rfl rfl ?_
  refine zk_iconst (v := 0) hX dX12_order_41 (by decide) ?_
  refine zk_istore (lo' := [_, _, _, _, _, _]) hX dX12_order_42 (Nat.le_of_ble_eq_true rfl) rfl rfl ?_
  exact h0
theorem s_X12_order_n {G : zG} {w : zW} {n a r : Nat} (hw : zWf w) (hn : n ≤ 12) (hP : w.1 166 33 = nI n) (ha2 : a < 2 ^ n) (ha1 : 1 ≤ a) (h8 : zcnt a.testBit n ≤ 8) (hr : r < 6) (h : ¬ oHeld a (mHk w) n = true) : zCi G mX12_order [.ref 166, .int (nI a), .int (nI r)] w (fun b w' => b = -3 ∧ ∃ w1, zFr [197] [] [49] w w1 ∧ w' = mfind w1 3) := by
  refine zC_of (lo := [_, _, _, _, _, _]) kcX12_order (Nat.le_of_ble_eq_true rfl) rfl (fun X hX hE => ?_)
  refine s_X12_order_held hX hw hn hP ha2 ha1 h8 hr (fun w1 i hF h49 hst => ?_)
  have hw1 := zFr_wf hF hw
  refine zk_iload_n hX dX12_order_108 rfl ?_
  refine zk_if_neB (tgt := 118) hX dX12_order_109 (by decide) (fun c109 => ?_) (fun c109 => ?_)
  · exact absurd c109 h
  refine zk_aload_n hX dX12_order_112 rfl ?_
  refine zk_iconst (v := 3) hX dX12_order_113 (by decide) ?_
  refine zk_V1i hX dX12_order_114 kcX12_meets mlX12_145 viX12_meets rfl k_166 z_166 (s_X12_meets hw1 _ (by decide)) (Nat.le_of_ble_eq_true rfl) rfl ?_
  refine zk_iret hX hE rfl ⟨rfl, rfl⟩ dX12_order_117 ⟨_, rfl, ?_⟩
  exact ⟨rfl, w1, hF, rfl⟩
theorem s_X12_order_s {G : zG} {w : zW} {D : zD} {n a r : Nat} (hw : zWf w) (hM : mHd w D) (hD : zDok D) (hn : n ≤ 12) (hP : w.1 166 33 = nI n) (ha2 : a < 2 ^ n) (ha1 : 1 ≤ a) (h8 : zcnt a.testBit n ≤ 8) (hr : r < 6) (h : oHeld a (mHk w) n = true) (hN : 4096 < zpr (zsp D) (dJ D)) : zCi G mX12_order [.ref 166, .int (nI a), .int (nI r)] w (fun b w' => b = -6 ∧ zFr [197] [] [49] w w') := by
  have hN0 := zpr_le hD (Nat.le_refl _)
  refine zC_of (lo := [_, _, _, _, _, _]) kcX12_order (Nat.le_of_ble_eq_true rfl) rfl (fun X hX hE => ?_)
  refine s_X12_order_held hX hw hn hP ha2 ha1 h8 hr (fun w1 i hF h49 hst => ?_)
  have hw1 := zFr_wf hF hw
  have hM1 := mHd_f hM hF (by decide)
  refine zk_iload_n hX dX12_order_108 rfl ?_
  refine zk_if_neB (tgt := 118) hX dX12_order_109 (by decide) (fun c109 => ?_) (fun c109 => ?_)
  rotate_left
  · exact absurd h c109
  refine zk_aload_n hX dX12_order_118 rfl ?_
  refine zk_V0i hX dX12_order_119 kcX12_turnsMany mlX12_329 viX12_turnsMany rfl k_166 z_166 (s_X12_turnsMany hw1 hM1 hD) (Nat.le_of_ble_eq_true rfl) rfl ?_
  refine zk_sipush (v := 4096) hX dX12_order_122 (by decide) ?_
  refine zk_icmp_le (tgt := 131) hX dX12_order_125 (by decide) (fun c125 => ?_) (fun c125 => ?_)
  · exact absurd c125 (fun z => absurd (nI_leD (y := 4096) z) (by omega))
  refine zk_bipush (v := -6) hX dX12_order_128 (by decide) ?_
  refine zk_iret hX hE rfl ⟨rfl, rfl⟩ dX12_order_130 ⟨_, rfl, ?_⟩
  exact ⟨rfl, hF⟩
