theorem nI_k (n : Nat) {x : Int32} (h : x = nI n) : x = nI n := h
theorem zinc (i : Nat) : nI i + Int32.ofInt 1 = nI (i + 1) := (nI_succ i).symm
theorem znat {n : Nat} (hn : n < 2 ^ 31) {x : Int32} (h0 : 0 ≤ x) (h1 : x < nI n) : ∃ j, j < n ∧ x = nI j := by
  obtain ⟨j, hj, rfl⟩ := nI_of (x := x) (Int32.not_lt.mpr h0)
  exact ⟨j, (nI_ltI hj hn).mp h1, rfl⟩
theorem znatle {n : Nat} (hn : n < 2 ^ 31) {x : Int32} (h0 : 0 ≤ x) (h1 : x ≤ nI n) : ∃ j, j ≤ n ∧ x = nI j := by
  obtain ⟨j, hj, rfl⟩ := nI_of (x := x) (Int32.not_lt.mpr h0)
  exact ⟨j, (nI_leI hj hn).mp h1, rfl⟩
/-- a size: none, or at most so much -/
def zSz (x : Int32) (L : Nat) : Prop := x = -1 ∨ ∃ m, m ≤ L ∧ x = nI m
theorem zSz_in {x : Int32} {L : Nat} (h : zSz x L) (hL : L < 5000) {i : Int32} (h0 : 0 ≤ i) (h1 : i < x) : ∃ j m, j < m ∧ m ≤ L ∧ i = nI j ∧ x = nI m := by
  rcases h with rfl | ⟨m, hm, rfl⟩
  · exact absurd h1 (by grind)
  · obtain ⟨j, hj, rfl⟩ := znat (by omega) h0 h1
    exact ⟨j, m, hj, hm, rfl, rfl⟩
/-- places 0 .. m - 1 of k are v -/
def zfill (w : zW) (k m : Nat) (v : Int32) : zW := (fun a i => if a = k ∧ i < m then v else w.1 a i, w.2)
theorem zfill_0 {w : zW} {k : Nat} {v : Int32} : zfill w k 0 v = w := by
  unfold zfill
  simp
theorem zfill_s {w : zW} {k m : Nat} {v : Int32} : zsi (zfill w k m v) k m v = zfill w k (m + 1) v := by
  unfold zfill zsi
  refine Prod.ext ?_ rfl
  funext a i
  show (if a = k ∧ i = m then v else if a = k ∧ i < m then v else w.1 a i) = if a = k ∧ i < m + 1 then v else w.1 a i
  grind
theorem zfill_1 {w : zW} {k m : Nat} {v : Int32} {a i : Nat} : (zfill w k m v).1 a i = if a = k ∧ i < m then v else w.1 a i := rfl
theorem zrlt {j n : Nat} (h : j < n) (hn : n < 5000 := by decide) : 0 ≤ nI j ∧ nI j < nI n := ⟨nI_pos' (by omega), nI_lt h (by omega)⟩
theorem zRw_k0 {a L : Nat} (h : zRw a L) : a < zN := by have := h.1.1; unfold zN; omega
theorem zRw_k1 {a L : Nat} (h : zRw a L) : a + 1 < zN := by have := h.1.1; unfold zN; omega
set_option maxRecDepth 100000 in
theorem s_X9_tell {G : zG} {w : zW} (v : Int32) : zEi G mX9_tell [.ref 1, .int v] w 1 (zsi w 1 0 v) := by
  refine zC_of (lo := [_, _]) kcX9_tell (Nat.le_of_ble_eq_true rfl) rfl (fun X hX hE => ?_)
  refine zk_aload_n hX dX9_tell_0 rfl ?_
  refine zk_iload_n hX dX9_tell_1 rfl ?_
  refine zk_putI hX dX9_tell_2 plX9_19 (fun h => by cases h) k_1 z_1 rfl rfl ?_
  refine zk_iconst (v := 1) hX dX9_tell_5 (by decide) ?_
  refine zk_iret hX hE rfl ⟨rfl, rfl⟩ dX9_tell_6 ⟨_, rfl, ?_⟩
  exact ⟨rfl, rfl⟩
/-- a FINDING, told -/
def zfind (w : zW) (k : Nat) : zW := zsi (zsi w 1 3 (nI k)) 2 k (w.1 2 k + 1)
set_option maxRecDepth 100000 in
theorem s_X9_find {G : zG} {w : zW} (hw : zWf w) (k : Nat) (hk : 1 ≤ k ∧ k ≤ 5) : zEi G mX9_find [.ref 1, .int (nI k)] w (-3) (zfind w k) := by
  refine zC_of (lo := [_, _]) kcX9_find (Nat.le_of_ble_eq_true rfl) rfl (fun X hX hE => ?_)
  refine zk_iload_n hX dX9_find_0 rfl ?_
  refine zk_iconst (v := 1) hX dX9_find_1 (by decide) ?_
  refine zk_icmp_lt (tgt := 25) hX dX9_find_2 (by decide) (fun c2 => ?_) (fun c2 => ?_)
  · exact absurd c2 (nI_nlt (b := 1) hk.1 (by omega))
  refine zk_iload_n hX dX9_find_5 rfl ?_
  refine zk_iconst (v := 5) hX dX9_find_6 (by decide) ?_
  refine zk_icmp_gt (tgt := 25) hX dX9_find_7 (by decide) (fun c7 => ?_) (fun c7 => ?_)
  · exact absurd c7 (nI_nlt (a := 5) hk.2 (by omega))
  refine zk_aload_n hX dX9_find_10 rfl ?_
  refine zk_iload_n hX dX9_find_11 rfl ?_
  refine zk_putI hX dX9_find_12 plX9_23 (fun h => by cases h) k_1 z_1 rfl rfl ?_
  refine zk_aload_n hX dX9_find_15 rfl ?_
  refine zk_getR hX dX9_find_16 flX9_15 k_1 z_1 ((zWf_i hw) _ _ (by decide) |>.trans r_1_4) ?_
  refine zk_iload_n hX dX9_find_19 rfl ?_
  refine zk_dup2 hX dX9_find_20 rfl rfl ?_
  refine zk_ialdE hX dX9_find_21 rfl k_2 z_2 (by first | assumption | omega) rfl ?_
  refine zk_iconst (v := 1) hX dX9_find_22 (by decide) ?_
  refine zk_iadd hX dX9_find_23 ?_
  refine zk_iastE hX dX9_find_24 rfl k_2 z_2 (by first | assumption | omega) rfl ?_
  refine zk_bipush (v := -3) hX dX9_find_25 (by decide) ?_
  refine zk_iret hX hE rfl ⟨rfl, rfl⟩ dX9_find_27 ⟨_, rfl, ?_⟩
  exact ⟨rfl, rfl⟩
set_option maxRecDepth 100000 in
theorem s_X8_isThere {G : zG} {w : zW} {a L : Nat} (hA : zRw a L) : zEi G mX8_isThere [.ref a] w (zb (0 ≤ w.1 a 0)) w := by
  refine zC_of (lo := [_]) kcX8_isThere (Nat.le_of_ble_eq_true rfl) rfl (fun X hX hE => ?_)
  refine zk_aload_n hX dX8_isThere_0 rfl ?_
  refine zk_getI hX dX8_isThere_1 flX8_11 (zRw_k0 hA) hA.1.2.1 ?_
  refine zk_if_lt (tgt := 11) hX dX8_isThere_4 (by decide) (fun c4 => ?_) (fun c4 => ?_)
  · refine zk_iconst (v := 0) hX dX8_isThere_11 (by decide) ?_
    refine zk_zret hX hE rfl ⟨rfl, rfl⟩ dX8_isThere_12 rfl ⟨_, rfl, ?_⟩
    exact ⟨by first | exact zb_t' (by grind) | exact zb_f' (by grind), rfl⟩
  · refine zk_iconst (v := 1) hX dX8_isThere_7 (by decide) ?_
    refine zk_goto (tgt := 12) hX dX8_isThere_8 (by decide) ?_
    refine zk_zret hX hE rfl ⟨rfl, rfl⟩ dX8_isThere_12 rfl ⟨_, rfl, ?_⟩
    exact ⟨by first | exact zb_t' (by grind) | exact zb_f' (by grind), rfl⟩
set_option maxRecDepth 100000 in
theorem s_X8_holds {G : zG} {w : zW} {a L : Nat} (hA : zRw a L) (i : Int32) : zEi G mX8_holds [.ref a, .int i] w (zb (0 ≤ i ∧ i < w.1 a 0)) w := by
  refine zC_of (lo := [_, _]) kcX8_holds (Nat.le_of_ble_eq_true rfl) rfl (fun X hX hE => ?_)
  refine zk_iload_n hX dX8_holds_0 rfl ?_
  refine zk_if_lt (tgt := 16) hX dX8_holds_1 (by decide) (fun c1 => ?_) (fun c1 => ?_)
  · refine zk_iconst (v := 0) hX dX8_holds_16 (by decide) ?_
    refine zk_zret hX hE rfl ⟨rfl, rfl⟩ dX8_holds_17 rfl ⟨_, rfl, ?_⟩
    exact ⟨by first | exact zb_t' (by grind) | exact zb_f' (by grind), rfl⟩
  · refine zk_iload_n hX dX8_holds_4 rfl ?_
    refine zk_aload_n hX dX8_holds_5 rfl ?_
    refine zk_getI hX dX8_holds_6 flX8_11 (zRw_k0 hA) hA.1.2.1 ?_
    refine zk_icmp_ge (tgt := 16) hX dX8_holds_9 (by decide) (fun c9 => ?_) (fun c9 => ?_)
    · refine zk_iconst (v := 0) hX dX8_holds_16 (by decide) ?_
      refine zk_zret hX hE rfl ⟨rfl, rfl⟩ dX8_holds_17 rfl ⟨_, rfl, ?_⟩
      exact ⟨by first | exact zb_t' (by grind) | exact zb_f' (by grind), rfl⟩
    · refine zk_iconst (v := 1) hX dX8_holds_12 (by decide) ?_
      refine zk_goto (tgt := 17) hX dX8_holds_13 (by decide) ?_
      refine zk_zret hX hE rfl ⟨rfl, rfl⟩ dX8_holds_17 rfl ⟨_, rfl, ?_⟩
      exact ⟨by first | exact zb_t' (by grind) | exact zb_f' (by grind), rfl⟩
def zRget (w : zW) (a : Nat) (i : Int32) : Int32 := if 0 ≤ i ∧ i < w.1 a 0 then w.1 (a + 1) i.toNatClampNeg else 0
theorem zRw_L {a L : Nat} (h : zRw a L) : L ≤ 80 := by rcases h.2 with h | h <;> omega
theorem zRw_B {a L : Nat} (h : zRw a L) : Nat.ble L 5000 = true := by rcases h.2 with rfl | rfl <;> rfl
set_option maxRecDepth 100000 in
theorem s_X8_get {G : zG} {w : zW} {a L : Nat} (hA : zRw a L) (hw : zWf w) (hS : zSz (w.1 a 0) L) (i : Int32) : zEi G mX8_get [.ref a, .int i] w (zRget w a i) w := by
  have hL := zRw_L hA
  refine zC_of (lo := [_, _]) kcX8_get (Nat.le_of_ble_eq_true rfl) rfl (fun X hX hE => ?_)
  refine zk_aload_n hX dX8_get_0 rfl ?_
  refine zk_iload_n hX dX8_get_1 rfl ?_
  refine zk_V1i hX dX8_get_2 kcX8_holds mlX8_25 viX8_holds rfl (zRw_k0 hA) hA.1.2.1 (s_X8_holds hA _) (Nat.le_of_ble_eq_true rfl) rfl ?_
  refine zk_if_eqB (tgt := 17) hX dX8_get_5 (by decide) (fun c5 => ?_) (fun c5 => ?_)
  · refine zk_iconst (v := 0) hX dX8_get_17 (by decide) ?_
    refine zk_iret hX hE rfl ⟨rfl, rfl⟩ dX8_get_18 ⟨_, rfl, ?_⟩
    unfold zRget
    first | rw [if_pos c5, nI_clamp (by omega)] | rw [if_neg c5]
    exact ⟨rfl, rfl⟩
  · obtain ⟨j, m, hj, hm, rfl, e⟩ := zSz_in hS (by omega) c5.1 c5.2
    refine zk_aload_n hX dX8_get_8 rfl ?_
    refine zk_getR hX dX8_get_9 flX8_21 (zRw_k0 hA) hA.1.2.1 ((hw _ _ hA.1.2.2.2.2).trans hA.1.2.2.1) ?_
    refine zk_iload_n hX dX8_get_12 rfl ?_
    refine zk_ialdE hX dX8_get_13 rfl (zRw_k1 hA) hA.1.2.2.2.1 (by first | assumption | omega) (zRw_B hA) ?_
    refine zk_goto (tgt := 18) hX dX8_get_14 (by decide) ?_
    refine zk_iret hX hE rfl ⟨rfl, rfl⟩ dX8_get_18 ⟨_, rfl, ?_⟩
    unfold zRget
    first | rw [if_pos c5, nI_clamp (by omega)] | rw [if_neg c5]
    exact ⟨rfl, rfl⟩
set_option maxRecDepth 100000 in
theorem s_X8_set {G : zG} {w : zW} {a L : Nat} (hA : zRw a L) (hw : zWf w) {j m : Nat} (hj : j < m) (hm : m ≤ L) (hS : w.1 a 0 = nI m) (v : Int32) : zEv G mX8_set [.ref a, .int (nI j), .int v] w (zsi w (a + 1) j v) := by
  have hL := zRw_L hA
  refine zC_of (lo := [_, _, _]) kcX8_set (Nat.le_of_ble_eq_true rfl) rfl (fun X hX hE => ?_)
  refine zk_aload_n hX dX8_set_0 rfl ?_
  refine zk_iload_n hX dX8_set_1 rfl ?_
  refine zk_V1i hX dX8_set_2 kcX8_holds mlX8_25 viX8_holds rfl (zRw_k0 hA) hA.1.2.1 (s_X8_holds hA _) (Nat.le_of_ble_eq_true rfl) rfl ?_
  refine zk_if_eqB (tgt := 15) hX dX8_set_5 (by decide) (fun c5 => ?_) (fun c5 => ?_)
  · exact absurd c5 (not_not_intro ⟨nI_pos' (by omega), by rw [hS]; exact nI_lt hj (by omega)⟩)
  refine zk_aload_n hX dX8_set_8 rfl ?_
  refine zk_getR hX dX8_set_9 flX8_21 (zRw_k0 hA) hA.1.2.1 ((hw _ _ hA.1.2.2.2.2).trans hA.1.2.2.1) ?_
  refine zk_iload_n hX dX8_set_12 rfl ?_
  refine zk_iload_n hX dX8_set_13 rfl ?_
  refine zk_iastE hX dX8_set_14 rfl (zRw_k1 hA) hA.1.2.2.2.1 (by first | assumption | omega) (zRw_B hA) ?_
  refine zk_vret hX hE rfl ⟨rfl, rfl⟩ dX8_set_15 ⟨rfl, ?_⟩
  rfl
set_option maxRecDepth 100000 in
theorem s_X8_renew {G : zG} {w : zW} {a L : Nat} (hA : zRw a L) (hw : zWf w) {m : Nat} (hm : m ≤ L) (v : Int32) : zEv G mX8_renew [.ref a, .int (nI m), .int v] w (zfill (zsi w a 0 (nI m)) (a + 1) m v) := by
  have hL := zRw_L hA
  refine zC_of (lo := [_, _, _, _]) kcX8_renew (Nat.le_of_ble_eq_true rfl) rfl (fun X hX hE => ?_)
  have loop : ∀ k i, i + k = m → zk0 G X mX8_renew 21 [.ref a, .int (nI m), .int v, .int (nI i)] [] (zfill (zsi w a 0 (nI m)) (a + 1) i v) := by
    intro k
    induction k with
    | zero =>
      intro i hi
      obtain rfl : i = m := by omega
      refine zk_iload_n hX dX8_renew_21 rfl ?_
      refine zk_iload_n hX dX8_renew_22 rfl ?_
      refine zk_icmp_ge (tgt := 39) hX dX8_renew_23 (by decide) (fun c23 => ?_) (fun c23 => ?_)
      rotate_left
      · exact absurd (nI_le (Nat.le_refl _) (by omega)) c23
      refine zk_vret hX hE rfl ⟨rfl, rfl⟩ dX8_renew_39 ⟨rfl, ?_⟩
      rfl
    | succ k ih =>
      intro i hi
      refine zk_iload_n hX dX8_renew_21 rfl ?_
      refine zk_iload_n hX dX8_renew_22 rfl ?_
      refine zk_icmp_ge (tgt := 39) hX dX8_renew_23 (by decide) (fun c23 => ?_) (fun c23 => ?_)
      · exact absurd c23 (nI_ge (by omega) (by omega))
      refine zk_aload_n hX dX8_renew_26 rfl ?_
      refine zk_getR hX dX8_renew_27 flX8_21 (zRw_k0 hA) hA.1.2.1 ((hw _ _ hA.1.2.2.2.2).trans hA.1.2.2.1) ?_
      refine zk_iload_n hX dX8_renew_30 rfl ?_
      refine zk_iload_n hX dX8_renew_31 rfl ?_
      refine zk_iastE hX dX8_renew_32 rfl (zRw_k1 hA) hA.1.2.2.2.1 (by first | assumption | omega) (zRw_B hA) ?_
      rw [zfill_s]
      refine zk_iinc (lo' := [_, _, _, _]) hX dX8_renew_33 rfl (by first | exact zinc _ | exact rfl) (Nat.le_of_ble_eq_true rfl) rfl rfl ?_
      refine zk_goto (tgt := 21) hX dX8_renew_36 (by decide) ?_
      exact ih (i + 1) (by omega)
  refine zk_iload_n hX dX8_renew_0 rfl ?_
  refine zk_if_lt (tgt := 13) hX dX8_renew_1 (by decide) (fun c1 => ?_) (fun c1 => ?_)
  · exact absurd c1 (nI_pos (by omega))
  refine zk_iload_n hX dX8_renew_4 rfl ?_
  refine zk_aload_n hX dX8_renew_5 rfl ?_
  refine zk_getR hX dX8_renew_6 flX8_21 (zRw_k0 hA) hA.1.2.1 ((hw _ _ hA.1.2.2.2.2).trans hA.1.2.2.1) ?_
  refine zk_alen hX dX8_renew_9 (zRw_k1 hA) (Or.inl hA.1.2.2.2.1) rfl ?_
  refine zk_icmp_le (tgt := 14) hX dX8_renew_10 (by decide) (fun c10 => ?_) (fun c10 => ?_)
  rotate_left
  · exact absurd (nI_le hm (by omega)) c10
  refine zk_aload_n hX dX8_renew_14 rfl ?_
  refine zk_iload_n hX dX8_renew_15 rfl ?_
  refine zk_putI hX dX8_renew_16 plX8_11 (fun h => by cases h) (zRw_k0 hA) hA.1.2.1 rfl rfl ?_
  refine zk_iconst (v := 0) hX dX8_renew_19 (by decide) ?_
  refine zk_istore_n (lo' := [_, _, _, _]) hX dX8_renew_20 (Nat.le_of_ble_eq_true rfl) rfl rfl ?_
  rw [← zfill_0 (w := zsi w a 0 (nI m)) (k := a + 1) (v := v)]
  exact loop m 0 (by omega)
theorem zRget_in {w : zW} {a i m : Nat} (hS : w.1 a 0 = nI m) (hm : m ≤ 80) (hi : i < m) : zRget w a (nI i) = w.1 (a + 1) i := by
  unfold zRget
  rw [if_pos ⟨nI_pos' (by omega), by rw [hS]; exact nI_lt hi (by omega)⟩, nI_clamp (by omega)]
theorem s_X8_hasLines {G : zG} {w : zW} {a L : Nat} (hA : zRw a L) (hw : zWf w) {m : Nat} (hm : m ≤ L) (hS : w.1 a 0 = nI m) : zEi G mX8_hasLines [.ref a] w (zb (∀ i, i < m → 0 ≤ w.1 (a + 1) i ∧ w.1 (a + 1) i ≤ 4095)) w := by
  have hL := zRw_L hA
  have hSz : zSz (w.1 a 0) L := Or.inr ⟨m, hm, hS⟩
  refine zC_of (lo := [_, _]) kcX8_hasLines (Nat.le_of_ble_eq_true rfl) rfl (fun X hX hE => ?_)
  have loop : ∀ k i, i + k = m → (∀ j, j < i → 0 ≤ w.1 (a + 1) j ∧ w.1 (a + 1) j ≤ 4095) → zk0 G X mX8_hasLines 2 [.ref a, .int (nI i)] [] w := by
    intro k
    induction k with
    | zero =>
      intro i hi hb
      obtain rfl : i = m := by omega
      refine zk_iload_n hX dX8_hasLines_2 rfl ?_
      refine zk_aload_n hX dX8_hasLines_3 rfl ?_
      refine zk_getI hX dX8_hasLines_4 flX8_11 (zRw_k0 hA) hA.1.2.1 ?_
      rw [hS]
      refine zk_icmp_ge (tgt := 37) hX dX8_hasLines_7 (by decide) (fun c7 => ?_) (fun c7 => ?_)
      rotate_left
      · exact absurd (nI_le (Nat.le_refl _) (by omega)) c7
      refine zk_iconst (v := 1) hX dX8_hasLines_37 (by decide) ?_
      refine zk_zret hX hE rfl ⟨rfl, rfl⟩ dX8_hasLines_38 rfl ⟨_, rfl, ?_⟩
      exact ⟨zb_t' hb, rfl⟩
    | succ k ih =>
      intro i hi hb
      refine zk_iload_n hX dX8_hasLines_2 rfl ?_
      refine zk_aload_n hX dX8_hasLines_3 rfl ?_
      refine zk_getI hX dX8_hasLines_4 flX8_11 (zRw_k0 hA) hA.1.2.1 ?_
      rw [hS]
      refine zk_icmp_ge (tgt := 37) hX dX8_hasLines_7 (by decide) (fun c7 => ?_) (fun c7 => ?_)
      · exact absurd c7 (nI_ge (by omega) (by omega))
      refine zk_aload_n hX dX8_hasLines_10 rfl ?_
      refine zk_iload_n hX dX8_hasLines_11 rfl ?_
      refine zk_V1i hX dX8_hasLines_12 kcX8_get mlX8_39 viX8_get rfl (zRw_k0 hA) hA.1.2.1 (s_X8_get hA hw hSz _) (Nat.le_of_ble_eq_true rfl) rfl ?_
      rw [zRget_in hS (by omega) (by omega)]
      refine zk_if_lt (tgt := 29) hX dX8_hasLines_15 (by decide) (fun c15 => ?_) (fun c15 => ?_)
      · refine zk_iconst (v := 0) hX dX8_hasLines_29 (by decide) ?_
        refine zk_zret hX hE rfl ⟨rfl, rfl⟩ dX8_hasLines_30 rfl ⟨_, rfl, ?_⟩
        refine ⟨zb_f' (fun h => ?_), rfl⟩
        have h1 := h i (by omega)
        grind
      · refine zk_aload_n hX dX8_hasLines_18 rfl ?_
        refine zk_iload_n hX dX8_hasLines_19 rfl ?_
        refine zk_V1i hX dX8_hasLines_20 kcX8_get mlX8_39 viX8_get rfl (zRw_k0 hA) hA.1.2.1 (s_X8_get hA hw hSz _) (Nat.le_of_ble_eq_true rfl) rfl ?_
        rw [zRget_in hS (by omega) (by omega)]
        refine zk_sipush (v := 4095) hX dX8_hasLines_23 (by decide) ?_
        refine zk_icmp_le (tgt := 31) hX dX8_hasLines_26 (by decide) (fun c26 => ?_) (fun c26 => ?_)
        · refine zk_iinc (lo' := [_, _]) hX dX8_hasLines_31 rfl (by first | exact zinc _ | exact rfl) (Nat.le_of_ble_eq_true rfl) rfl rfl ?_
          refine zk_goto (tgt := 2) hX dX8_hasLines_34 (by decide) ?_
          exact ih (i + 1) (by omega) (fun j hj => by
            rcases Nat.lt_succ_iff_lt_or_eq.mp hj with h | rfl
            · exact hb j h
            · grind)
        · refine zk_iconst (v := 0) hX dX8_hasLines_29 (by decide) ?_
          refine zk_zret hX hE rfl ⟨rfl, rfl⟩ dX8_hasLines_30 rfl ⟨_, rfl, ?_⟩
          refine ⟨zb_f' (fun h => ?_), rfl⟩
          have h1 := h i (by omega)
          grind
  refine zk_iconst (v := 0) hX dX8_hasLines_0 (by decide) ?_
  refine zk_istore_n (lo' := [_, _]) hX dX8_hasLines_1 (Nat.le_of_ble_eq_true rfl) rfl rfl ?_
  exact loop m 0 (by omega) (fun j hj => absurd hj (by omega))
