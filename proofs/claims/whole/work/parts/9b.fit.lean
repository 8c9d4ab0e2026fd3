/-! fit -/
def fe (n : Nat) : Nat := n / 9
def fa (n : Nat) : Nat := n / 3 % 3
def fd (n : Nat) : Nat := n % 3
def fc (n : Nat) : Nat := 100 * fe n + 10 * fa n + fd n
theorem f_le {n : Nat} (h : n < 27) : fe n ≤ 9 ∧ fa n ≤ 9 ∧ fd n ≤ 9 := by
  unfold fe fa fd
  omega
/-- the first of the greatest -/
def zmxf (H : Nat → Nat) : Nat → Nat
  | 0 => 0
  | n + 1 => if H (zmxf H n) < H n then n else zmxf H n
theorem zmxf_le (H : Nat → Nat) : ∀ n, zmxf H n ≤ n
  | 0 => Nat.le_refl _
  | n + 1 => by
    have := zmxf_le H n
    unfold zmxf
    split <;> omega
theorem zmxf_lt (H : Nat → Nat) (n : Nat) : zmxf H (n + 1) < n + 1 := by
  have := zmxf_le H n
  unfold zmxf
  split
  · omega
  · rename_i h
    rcases Nat.lt_or_ge (zmxf H n) n with q | q
    · omega
    · omega
theorem s_X4_beginFit {G : zG} {w : zW} (hw : zWf w) : zCv G mX4_beginFit [.ref 114] w (fun w' => zFr [130] [] [] w w' ∧ ∀ n, n < 27 → w'.1 130 n = nI 0) := by
  refine zC_of (lo := [_, _]) kcX4_beginFit (Nat.le_of_ble_eq_true rfl) rfl (fun X hX hE => ?_)
  have loop : ∀ m i w1, i + m = 27 → zFr [130] [] [] w w1 → (∀ n, n < i → w1.1 130 n = nI 0) → zk0 G X mX4_beginFit 2 [.ref 114, .int (nI i)] [] w1 := by
    intro m
    induction m with
    | zero =>
      intro i w1 hi hF h
      obtain rfl : i = 27 := by omega
      refine zk_iload_n hX dX4_beginFit_2 rfl ?_
      refine zk_bipush (v := 27) hX dX4_beginFit_3 (by decide) ?_
      refine zk_icmp_ge (tgt := 21) hX dX4_beginFit_5 (by decide) (fun c5 => ?_) (fun c5 => ?_)
      rotate_left
      · exact absurd (by decide) c5
      refine zk_vret hX hE rfl ⟨rfl, rfl⟩ dX4_beginFit_21 ⟨rfl, ?_⟩
      exact ⟨hF, h⟩
    | succ m ih =>
      intro i w1 hi hF h
      have hw1 := zFr_wf hF hw
      refine zk_iload_n hX dX4_beginFit_2 rfl ?_
      refine zk_bipush (v := 27) hX dX4_beginFit_3 (by decide) ?_
      refine zk_icmp_ge (tgt := 21) hX dX4_beginFit_5 (by decide) (fun c5 => ?_) (fun c5 => ?_)
      · exact absurd c5 (nI_ge (b := 27) (by omega) (by decide))
      refine zk_aload_n hX dX4_beginFit_8 rfl ?_
      refine zk_getR hX dX4_beginFit_9 flX4_35 k_114 z_114 (hw1 _ _ (by decide) |>.trans r_114_10) ?_
      refine zk_iload_n hX dX4_beginFit_12 rfl ?_
      refine zk_iconst (v := 0) hX dX4_beginFit_13 (by decide) ?_
      refine zk_iastE hX dX4_beginFit_14 rfl k_130 z_130 (by first | assumption | omega) rfl ?_
      refine zk_iinc (lo' := [_, _]) hX dX4_beginFit_15 rfl (by first | exact zinc _ | exact rfl) (Nat.le_of_ble_eq_true rfl) rfl rfl ?_
      refine zk_goto (tgt := 2) hX dX4_beginFit_18 (by decide) ?_
      refine ih (i + 1) _ (by omega) (zFr_t hF (zFr_i (by decide) (by decide))) (fun n hn => ?_)
      rw [zsi_1]
      by_cases q : n = i
      · rw [if_pos ⟨rfl, q⟩]
        rfl
      · rw [if_neg (fun z => q z.2)]
        exact h n (by omega)
  refine zk_iconst (v := 0) hX dX4_beginFit_0 (by decide) ?_
  refine zk_istore_n (lo' := [_, _]) hX dX4_beginFit_1 (Nat.le_of_ble_eq_true rfl) rfl rfl ?_
  exact loop 27 0 w (by omega) zFr_r (fun n hn => absurd hn (by omega))
def zhit1 (b : zBd) (Z : zS) (mo : Bool) (wish : Int32) (n : Nat) : Nat := if zoe (zgs b Z mo (fe n) (fa n) (fd n)) = wish then 1 else 0
theorem s_X4_tryFits {G : zG} {w : zW} {b : zBd} {Z : zS} {mo : Bool} {wish : Int32} {H : Nat → Nat} (hw : zWf w) (hB : cBs w b) (hMe : cMe w b Z mo) (hH : ∀ n, n < 27 → w.1 130 n = nI (H n)) :
    zCv G mX4_tryFits [.ref 114, .ref 95, .int wish] w (fun w' => zFr [114, 130] [] [] w w' ∧ (∀ i, i ≠ 9 → w'.1 114 i = w.1 114 i) ∧ ∀ n, n < 27 → w'.1 130 n = nI (H n + zhit1 b Z mo wish n)) := by
  refine zC_of (lo := [_, _, _, _]) kcX4_tryFits (Nat.le_of_ble_eq_true rfl) rfl (fun X hX hE => ?_)
  have loop : ∀ m i w1, i + m = 27 → zFr [114, 130] [] [] w w1 → (∀ i, i ≠ 9 → w1.1 114 i = w.1 114 i) → (∀ n, n < i → w1.1 130 n = nI (H n + zhit1 b Z mo wish n)) → (∀ n, i ≤ n → n < 27 → w1.1 130 n = nI (H n)) → zk0 G X mX4_tryFits 2 [.ref 114, .ref 95, .int wish, .int (nI i)] [] w1 := by
    intro m
    induction m with
    | zero =>
      intro i w1 hi hF h4 g1 g2
      obtain rfl : i = 27 := by omega
      refine zk_iload_n hX dX4_tryFits_2 rfl ?_
      refine zk_bipush (v := 27) hX dX4_tryFits_3 (by decide) ?_
      refine zk_icmp_ge (tgt := 45) hX dX4_tryFits_5 (by decide) (fun c5 => ?_) (fun c5 => ?_)
      rotate_left
      · exact absurd (by decide) c5
      refine zk_vret hX hE rfl ⟨rfl, rfl⟩ dX4_tryFits_45 ⟨rfl, ?_⟩
      exact ⟨hF, h4, g1⟩
    | succ m ih =>
      intro i w1 hi hF h4 g1 g2
      have hw1 := zFr_wf hF hw
      obtain ⟨f1, f2, f3⟩ := f_le (show i < 27 by omega)
      have cg := s_X4_guessBy (G := G) (e := fe i) (a := fa i) (d := fd i) hw1 (cBs_f hB hF (by decide)) (show cMe w1 b Z mo from fun k hk => by rw [hF.2.1 127 (by decide) (by decide), hF.2.1 128 (by decide) (by decide), hF.2.1 129 (by decide) (by decide)]; exact hMe k hk) f1 f2 f3
      have h9 := fun w2 => ih (i + 1) w2 (by omega)
      refine zk_iload_n hX dX4_tryFits_2 rfl ?_
      refine zk_bipush (v := 27) hX dX4_tryFits_3 (by decide) ?_
      refine zk_icmp_ge (tgt := 45) hX dX4_tryFits_5 (by decide) (fun c5 => ?_) (fun c5 => ?_)
      · exact absurd c5 (nI_ge (b := 27) (by omega) (by decide))
      refine zk_aload_n hX dX4_tryFits_8 rfl ?_
      refine zk_aload_n hX dX4_tryFits_9 rfl ?_
      refine zk_iload_n hX dX4_tryFits_10 rfl ?_
      refine zk_bipush (v := 9) hX dX4_tryFits_11 (by decide) ?_
      refine zk_idiv hX dX4_tryFits_13 (by decide) ?_
      rw [show (9 : Int32) = nI 9 from rfl, nI_div (by omega) (by decide)]
      refine zk_iload_n hX dX4_tryFits_14 rfl ?_
      refine zk_iconst (v := 3) hX dX4_tryFits_15 (by decide) ?_
      refine zk_idiv hX dX4_tryFits_16 (by decide) ?_
      refine zk_iconst (v := 3) hX dX4_tryFits_17 (by decide) ?_
      refine zk_irem hX dX4_tryFits_18 (by decide) ?_
      rw [show (3 : Int32) = nI 3 from rfl, nI_div (by omega) (by decide), nI_rem (by omega) (by decide)]
      refine zk_iload_n hX dX4_tryFits_19 rfl ?_
      refine zk_iconst (v := 3) hX dX4_tryFits_20 (by decide) ?_
      refine zk_irem hX dX4_tryFits_21 (by decide) ?_
      rw [show (3 : Int32) = nI 3 from rfl, nI_rem (by omega) (by decide)]
      refine zk_V4ip hX dX4_tryFits_22 kcX4_guessBy mlX4_75 viX4_guessBy rfl k_114 z_114 cg (Nat.le_of_ble_eq_true rfl) rfl (fun x w2 q2 => ?_)
      obtain ⟨rfl, k1, k2, _⟩ := q2
      have hw2 := zFr_wf k1 hw1
      have e0 : w2.1 130 = w1.1 130 := k1.2.1 130 (by decide) (by decide)
      refine zk_iload_n hX dX4_tryFits_25 rfl ?_
      refine zk_icmp_ne (tgt := 39) hX dX4_tryFits_26 (by decide) (fun c26 => ?_) (fun c26 => ?_)
      · refine zk_iinc (lo' := [_, _, _, _]) hX dX4_tryFits_39 rfl (by first | exact zinc _ | exact rfl) (Nat.le_of_ble_eq_true rfl) rfl rfl ?_
        refine zk_goto (tgt := 2) hX dX4_tryFits_42 (by decide) ?_
        first
        | (refine h9 _ (zFr_t hF (zFr_t (zFr_s k1 (by decide)) (zFr_i (by decide) (by decide)))) (fun j hj => by rw [zsi_o (by decide), k2 j hj]; exact h4 j hj) (fun n hn => ?_) (fun n hn hn2 => ?_)
           · rw [zsi_1]
             by_cases q : n = i
             · rw [if_pos ⟨rfl, q⟩, q, nI_1]
               unfold zhit1
               rw [if_pos (by first | exact c26 | exact Decidable.not_not.mp c26)]
             · rw [if_neg (fun z => q z.2), e0]
               exact g1 n (by omega)
           · rw [zsi_1, if_neg (by omega), e0]
             exact g2 n (by omega) hn2)
        | (refine h9 w2 (zFr_t hF (zFr_s k1 (by decide))) (fun j hj => by rw [k2 j hj]; exact h4 j hj) (fun n hn => ?_) (fun n hn hn2 => by rw [e0]; exact g2 n (by omega) hn2)
           rw [e0]
           by_cases q : n = i
           · rw [q, g2 i (Nat.le_refl _) (by omega)]
             unfold zhit1
             rw [if_neg c26, Nat.add_zero]
           · exact g1 n (by omega))
      · refine zk_aload_n hX dX4_tryFits_29 rfl ?_
        refine zk_getR hX dX4_tryFits_30 flX4_35 k_114 z_114 (hw2 _ _ (by decide) |>.trans r_114_10) ?_
        refine zk_iload_n hX dX4_tryFits_33 rfl ?_
        refine zk_dup2 hX dX4_tryFits_34 rfl rfl ?_
        refine zk_ialdE hX dX4_tryFits_35 rfl k_130 z_130 (by first | assumption | omega) rfl ?_
        rw [e0, g2 i (Nat.le_refl _) (by omega)]
        refine zk_iconst (v := 1) hX dX4_tryFits_36 (by decide) ?_
        refine zk_iadd hX dX4_tryFits_37 ?_
        refine zk_iastE hX dX4_tryFits_38 rfl k_130 z_130 (by first | assumption | omega) rfl ?_
        refine zk_iinc (lo' := [_, _, _, _]) hX dX4_tryFits_39 rfl (by first | exact zinc _ | exact rfl) (Nat.le_of_ble_eq_true rfl) rfl rfl ?_
        refine zk_goto (tgt := 2) hX dX4_tryFits_42 (by decide) ?_
        first
        | (refine h9 _ (zFr_t hF (zFr_t (zFr_s k1 (by decide)) (zFr_i (by decide) (by decide)))) (fun j hj => by rw [zsi_o (by decide), k2 j hj]; exact h4 j hj) (fun n hn => ?_) (fun n hn hn2 => ?_)
           · rw [zsi_1]
             by_cases q : n = i
             · rw [if_pos ⟨rfl, q⟩, q, nI_1]
               unfold zhit1
               rw [if_pos (by first | exact c26 | exact Decidable.not_not.mp c26)]
             · rw [if_neg (fun z => q z.2), e0]
               exact g1 n (by omega)
           · rw [zsi_1, if_neg (by omega), e0]
             exact g2 n (by omega) hn2)
        | (refine h9 w2 (zFr_t hF (zFr_s k1 (by decide))) (fun j hj => by rw [k2 j hj]; exact h4 j hj) (fun n hn => ?_) (fun n hn hn2 => by rw [e0]; exact g2 n (by omega) hn2)
           rw [e0]
           by_cases q : n = i
           · rw [q, g2 i (Nat.le_refl _) (by omega)]
             unfold zhit1
             rw [if_neg c26, Nat.add_zero]
           · exact g1 n (by omega))
  refine zk_iconst (v := 0) hX dX4_tryFits_0 (by decide) ?_
  refine zk_istore_n (lo' := [_, _, _, _]) hX dX4_tryFits_1 (Nat.le_of_ble_eq_true rfl) rfl rfl ?_
  exact loop 27 0 w (by omega) zFr_r (fun _ _ => rfl) (fun n hn => absurd hn (by omega)) (fun n _ hn => hH n hn)
theorem s_X4_bestFit {G : zG} {w : zW} {H : Nat → Nat} (hw : zWf w) (h24 : ∀ n, H n ≤ 24) (hH : ∀ n, n < 27 → w.1 130 n = nI (H n)) : zEi G mX4_bestFit [.ref 114] w (nI (zmxf H 27)) w := by
  refine zC_of (lo := [_, _, _]) kcX4_bestFit (Nat.le_of_ble_eq_true rfl) rfl (fun X hX hE => ?_)
  have loop : ∀ m i, i + 1 + m = 27 → zk0 G X mX4_bestFit 4 [.ref 114, .int (nI (zmxf H (i + 1))), .int (nI (i + 1))] [] w := by
    intro m
    induction m with
    | zero =>
      intro i hi
      obtain rfl : i = 26 := by omega
      refine zk_iload_n hX dX4_bestFit_4 rfl ?_
      refine zk_bipush (v := 27) hX dX4_bestFit_5 (by decide) ?_
      refine zk_icmp_ge (tgt := 33) hX dX4_bestFit_7 (by decide) (fun c7 => ?_) (fun c7 => ?_)
      rotate_left
      · exact absurd (by decide) c7
      refine zk_iload_n hX dX4_bestFit_33 rfl ?_
      refine zk_iret hX hE rfl ⟨rfl, rfl⟩ dX4_bestFit_34 ⟨_, rfl, ?_⟩
      exact ⟨rfl, rfl⟩
    | succ m ih =>
      intro i hi
      have h9 := ih (i + 1) (by omega)
      have hl := zmxf_lt H i
      have a1 := h24 (i + 1)
      have a2 := h24 (zmxf H (i + 1))
      refine zk_iload_n hX dX4_bestFit_4 rfl ?_
      refine zk_bipush (v := 27) hX dX4_bestFit_5 (by decide) ?_
      refine zk_icmp_ge (tgt := 33) hX dX4_bestFit_7 (by decide) (fun c7 => ?_) (fun c7 => ?_)
      · exact absurd c7 (nI_ge (b := 27) (by omega) (by decide))
      refine zk_aload_n hX dX4_bestFit_10 rfl ?_
      refine zk_getR hX dX4_bestFit_11 flX4_35 k_114 z_114 (hw _ _ (by decide) |>.trans r_114_10) ?_
      refine zk_iload_n hX dX4_bestFit_14 rfl ?_
      refine zk_ialdE hX dX4_bestFit_15 rfl k_130 z_130 (by first | assumption | omega) rfl ?_
      rw [hH (i + 1) (by omega)]
      refine zk_aload_n hX dX4_bestFit_16 rfl ?_
      refine zk_getR hX dX4_bestFit_17 flX4_35 k_114 z_114 (hw _ _ (by decide) |>.trans r_114_10) ?_
      refine zk_iload_n hX dX4_bestFit_20 rfl ?_
      refine zk_ialdE hX dX4_bestFit_21 rfl k_130 z_130 (by first | assumption | omega) rfl ?_
      rw [hH (zmxf H (i + 1)) (by omega)]
      refine zk_icmp_le (tgt := 27) hX dX4_bestFit_22 (by decide) (fun c22 => ?_) (fun c22 => ?_)
      · refine zk_iinc (lo' := [_, _, _]) hX dX4_bestFit_27 rfl (by first | exact zinc _ | exact rfl) (Nat.le_of_ble_eq_true rfl) rfl rfl ?_
        refine zk_goto (tgt := 4) hX dX4_bestFit_30 (by decide) ?_
        first
        | (have q := nI_ltD c22 (by omega) (by omega)
           rw [show zmxf H (i + 1 + 1) = i + 1 from if_pos q] at h9
           exact h9)
        | (have q := nI_leD c22 (by omega) (by omega)
           rw [show zmxf H (i + 1 + 1) = zmxf H (i + 1) from if_neg (by omega)] at h9
           exact h9)
      · refine zk_iload_n hX dX4_bestFit_25 rfl ?_
        refine zk_istore_n (lo' := [_, _, _]) hX dX4_bestFit_26 (Nat.le_of_ble_eq_true rfl) rfl rfl ?_
        refine zk_iinc (lo' := [_, _, _]) hX dX4_bestFit_27 rfl (by first | exact zinc _ | exact rfl) (Nat.le_of_ble_eq_true rfl) rfl rfl ?_
        refine zk_goto (tgt := 4) hX dX4_bestFit_30 (by decide) ?_
        first
        | (have q := nI_ltD c22 (by omega) (by omega)
           rw [show zmxf H (i + 1 + 1) = i + 1 from if_pos q] at h9
           exact h9)
        | (have q := nI_leD c22 (by omega) (by omega)
           rw [show zmxf H (i + 1 + 1) = zmxf H (i + 1) from if_neg (by omega)] at h9
           exact h9)
  have h0 := loop 26 0 (by omega)
  rw [show zmxf H (0 + 1) = 0 from if_neg (Nat.lt_irrefl _)] at h0
  refine zk_iconst (v := 0) hX dX4_bestFit_0 (by decide) ?_
  refine zk_istore_n (lo' := [_, _, _]) hX dX4_bestFit_1 (Nat.le_of_ble_eq_true rfl) rfl rfl ?_
  refine zk_iconst (v := 1) hX dX4_bestFit_2 (by decide) ?_
  refine zk_istore_n (lo' := [_, _, _]) hX dX4_bestFit_3 (Nat.le_of_ble_eq_true rfl) rfl rfl ?_
  exact h0
theorem s_X4_fitCode {G : zG} {w : zW} {n : Nat} (hn : n < 27) : zEi G mX4_fitCode [.int (nI n)] w (nI (fc n)) w := by
  refine zC_of (lo := [_]) kcX4_fitCode (Nat.le_of_ble_eq_true rfl) rfl (fun X hX hE => ?_)
  refine zk_bipush (v := 100) hX dX4_fitCode_0 (by decide) ?_
  refine zk_iload_n hX dX4_fitCode_2 rfl ?_
  refine zk_bipush (v := 9) hX dX4_fitCode_3 (by decide) ?_
  refine zk_idiv hX dX4_fitCode_5 (by decide) ?_
  rw [show (9 : Int32) = nI 9 from rfl, nI_div (by omega) (by decide), show (100 : Int32) = nI 100 from rfl]
  refine zk_imul hX dX4_fitCode_6 ?_
  rw [nI_mul]
  refine zk_bipush (v := 10) hX dX4_fitCode_7 (by decide) ?_
  refine zk_iload_n hX dX4_fitCode_9 rfl ?_
  refine zk_iconst (v := 3) hX dX4_fitCode_10 (by decide) ?_
  refine zk_idiv hX dX4_fitCode_11 (by decide) ?_
  refine zk_iconst (v := 3) hX dX4_fitCode_12 (by decide) ?_
  refine zk_irem hX dX4_fitCode_13 (by decide) ?_
  rw [show (3 : Int32) = nI 3 from rfl, nI_div (by omega) (by decide), nI_rem (by omega) (by decide), show (10 : Int32) = nI 10 from rfl]
  refine zk_imul hX dX4_fitCode_14 ?_
  refine zk_iadd hX dX4_fitCode_15 ?_
  rw [nI_mul, nI_add]
  refine zk_iload_n hX dX4_fitCode_16 rfl ?_
  refine zk_iconst (v := 3) hX dX4_fitCode_17 (by decide) ?_
  refine zk_irem hX dX4_fitCode_18 (by decide) ?_
  rw [show (3 : Int32) = nI 3 from rfl, nI_rem (by omega) (by decide)]
  refine zk_iadd hX dX4_fitCode_19 ?_
  rw [nI_add]
  refine zk_iret hX hE rfl ⟨rfl, rfl⟩ dX4_fitCode_20 ⟨_, rfl, ?_⟩
  exact ⟨rfl, rfl⟩
def zHt (b : zBd) (Zf : Nat → zS) (mo : Nat → Bool) (K : zCd) (l i n : Nat) : Nat := zcnt (zag b Zf mo K l (fe n) (fa n) (fd n)) i
