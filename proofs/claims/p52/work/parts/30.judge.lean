theorem zC.mono {G : zG} {M : zM} {args : List Value} {n : Nat} {w : zW} {n' : Nat} {Q Q' : Option Value → zW → Prop} (h : zC G M args n w n' Q) (hq : ∀ v w', Q v w' → Q' v w') : zC G M args n w n' Q' := by
  unfold zC Met at *
  refine MetFree.mono h (fun _ _ q => q) (fun _ _ _ _ _ q => q) (fun a s o t _ q => ⟨⟨?_, q.1.2⟩, q.2⟩)
  obtain ⟨v, w1, h1, h2, h3⟩ := q.1.1
  exact ⟨v, w1, h1, hq v w1 h2, h3⟩
theorem zsi_o {w : zW} {k j a : Nat} {x : Int32} (h : a ≠ k) : (zsi w k j x).1 a = w.1 a := by
  funext i
  rw [zsi_1, if_neg (fun q => h q.1)]
theorem zsub_0 {a b : Nat} (ha : a < 1000) (hb : b < 1000) : nI a - nI b ≤ 0 ↔ a ≤ b := by
  rcases Nat.lt_or_ge b a with h | h
  · rw [nI_sub (by omega)]
    exact ⟨fun q => absurd q (nI_nle (by omega) (by omega)), fun q => by omega⟩
  · obtain ⟨c, rfl⟩ : ∃ c, b = a + c := ⟨b - a, by omega⟩
    refine ⟨fun _ => h, fun _ => ?_⟩
    have h0 : 0 ≤ nI c := nI_pos' (by omega)
    have h1 : nI c ≤ nI 1000 := nI_le (by omega) (by decide)
    have e : nI a - nI (a + c) = -nI c := by
      rw [← nI_add]
      grind
    rw [e]
    have h2 : nI c ≤ 1000 := h1
    grind
theorem zld_le {t : Nat → Int32} (h : ∀ j, j < 6 → -2 ≤ t j ∧ t j ≤ 2) : zld t ≤ 12 := zsm_le (b := 2) (fun i hi => (zab_2 (h i hi)).1)
/-- a pose that is judged -/
def cJd (w : zW) (p : Nat) (D : zD) (T : Nat) (ld wr most : Nat) (mv : Int32) (w' : zW) : Prop := zFr [47 + 4 * p, 48 + 4 * p] [49 + 4 * p, 163] [] w w' ∧ w'.1 (48 + 4 * p) = w.1 (48 + 4 * p) ∧
  (w'.1 (47 + 4 * p) 3 = (if 0 < wr then 3 else if T < most then 2 else if mv = -9 then 1 else 4) ∧ w'.1 (47 + 4 * p) 4 = mv ∧ w'.1 (47 + 4 * p) 5 = nI ld ∧ w'.1 (47 + 4 * p) 6 = nI most - nI T ∧ w'.1 (47 + 4 * p) 7 = nI wr) ∧
  zHas w' (49 + 4 * p) (zdkL zno (zP D (w.1 (48 + 4 * p)) (-1)))
theorem zmx (a b : Nat) (ha : a < 1000) (hb : b < 1000) : (if nI a < nI b then nI b else nI a) = nI (max a b) := by
  by_cases h : a < b
  · rw [if_pos (nI_lt h (by omega)), Nat.max_eq_right (by omega)]
  · rw [if_neg (nI_nlt (by omega) (by omega)), Nat.max_eq_left (by omega)]
theorem s_X5_judge_n {G : zG} {w : zW} {D : zD} {p T : Nat} (hw : zWf w) (hp : p < 12) (hH : cHd w 26 D) (hD : zDok D) (hT : zT6 D (w.1 (48 + 4 * p))) (hT9 : T ≤ 99) (hm : w.1 (47 + 4 * p) 4 = -9) :
    zCv G mX5_judge [.ref (47 + 4 * p), .ref 26, .int (nI T), .ref 163] w (fun w' => cJd w p D T (zld (w.1 (48 + 4 * p))) (zwrL zno (zP D (w.1 (48 + 4 * p)) (-1))) (zld (w.1 (48 + 4 * p))) (-9) w') := by
  have hab := fun j hj => (zab_2 (hT j hj).1).2.1
  have h1 := zld_le (fun j hj => (hT j hj).1)
  have h2 := zP_len hD (w.1 (48 + 4 * p)) (-1)
  have h3 := zwrL_le (zP D (w.1 (48 + 4 * p)) (-1)) zno
  have e1 : (zsi w (47 + 4 * p) 5 (nI (zld (w.1 (48 + 4 * p))))).1 (48 + 4 * p) = w.1 (48 + 4 * p) := zsi_o (by omega)
  have c1 := s_X2_allCells (G := G) (k := 49 + 4 * p) (tk := 48 + 4 * p) (w := zsi w (47 + 4 * p) 5 (nI (zld (w.1 (48 + 4 * p))))) (zWf_i hw) (cHd_o hH (fun a _ _ => zsi_o (by omega))) hD (zPoD hp) (zPoT hp)
  rw [e1] at c1
  refine zC_of (lo := [_, _, _, _, _]) kcX5_judge (Nat.le_of_ble_eq_true rfl) rfl (fun X hX hE => ?_)
  have tail : ∀ w2 (v : Value), zWf w2 → w2 = zsi (zsetS (zsi w (47 + 4 * p) 5 (nI (zld (w.1 (48 + 4 * p))))) (49 + 4 * p) (zdkL zno (zP D (w.1 (48 + 4 * p)) (-1)))) (47 + 4 * p) 7 (nI (zwrL zno (zP D (w.1 (48 + 4 * p)) (-1)))) →
      zk0 G X mX5_judge 103 [.ref (47 + 4 * p), .ref 26, .int (nI T), v, .int (nI (zld (w.1 (48 + 4 * p))))] [] w2 := by
    intro w2 v hw2 e2
    have g7 : w2.1 (47 + 4 * p) 7 = nI (zwrL zno (zP D (w.1 (48 + 4 * p)) (-1))) := by rw [e2, zsi_1, if_pos ⟨rfl, rfl⟩]
    have g4 : w2.1 (47 + 4 * p) 4 = -9 := by rw [e2, zsi_1, if_neg (by omega), zsetS_1, zsi_1, if_neg (by omega), hm]
    have g5 : w2.1 (47 + 4 * p) 5 = nI (zld (w.1 (48 + 4 * p))) := by rw [e2, zsi_1, if_neg (by omega), zsetS_1, zsi_1, if_pos ⟨rfl, rfl⟩]
    have gF : zFr [47 + 4 * p, 48 + 4 * p] [49 + 4 * p, 163] [] w w2 := by rw [e2]; exact zFr_t (zFr_t (zFr_i (by simp) (by omega)) (zFr_S (by simp))) (zFr_i (by simp) (by omega))
    have g8 : w2.1 (48 + 4 * p) = w.1 (48 + 4 * p) := by rw [e2, zsi_o (by omega), zsetS_1, zsi_o (by omega)]
    have gS : zHas w2 (49 + 4 * p) (zdkL zno (zP D (w.1 (48 + 4 * p)) (-1))) := by rw [e2]; exact zsetS_has
    have fin : ∀ kd, kd = (if 0 < zwrL zno (zP D (w.1 (48 + 4 * p)) (-1)) then 3 else if T < zld (w.1 (48 + 4 * p)) then 2 else if (-9 : Int32) = -9 then 1 else 4) → cJd w p D T (zld (w.1 (48 + 4 * p))) (zwrL zno (zP D (w.1 (48 + 4 * p)) (-1))) (zld (w.1 (48 + 4 * p))) (-9) (zsi (zsi w2 (47 + 4 * p) 6 (nI (zld (w.1 (48 + 4 * p))) - nI T)) (47 + 4 * p) 3 kd) := by
      intro kd hkd
      refine ⟨zFr_t gF (zFr_t (zFr_i (by simp) (by omega)) (zFr_i (by simp) (by omega))), ?_, ⟨?_, ?_, ?_, ?_, ?_⟩, gS⟩
      · rw [zsi_o (by omega), zsi_o (by omega), g8]
      · rw [zsi_1, if_pos ⟨rfl, rfl⟩, hkd]
      · rw [zsi_1, if_neg (by omega), zsi_1, if_neg (by omega), g4]
      · rw [zsi_1, if_neg (by omega), zsi_1, if_neg (by omega), g5]
      · rw [zsi_1, if_neg (by omega), zsi_1, if_pos ⟨rfl, rfl⟩]
      · rw [zsi_1, if_neg (by omega), zsi_1, if_neg (by omega), g7]
    clear e2
    refine zk_aload_n hX dX5_judge_103 rfl ?_
    refine zk_iload hX dX5_judge_104 rfl ?_
    refine zk_iload_n hX dX5_judge_106 rfl ?_
    refine zk_isub hX dX5_judge_107 ?_
    refine zk_putI hX dX5_judge_108 plX5_60 (fun h => by cases h) (zPok (by first | assumption | omega)) (zPoz _ (by first | assumption | omega)).1 rfl rfl ?_
    refine zk_aload_n hX dX5_judge_111 rfl ?_
    refine zk_getI hX dX5_judge_112 flX5_51 (zPok (by first | assumption | omega)) (zPoz _ (by first | assumption | omega)).1 ?_
    rw [zsi_1, if_neg (by omega), g7]
    refine zk_if_le (tgt := 126) hX dX5_judge_115 (by decide) (fun c115 => ?_) (fun c115 => ?_)
    · refine zk_aload_n hX dX5_judge_126 rfl ?_
      refine zk_getI hX dX5_judge_127 flX5_60 (zPok (by first | assumption | omega)) (zPoz _ (by first | assumption | omega)).1 ?_
      rw [zsi_1, if_pos ⟨rfl, rfl⟩]
      refine zk_if_le (tgt := 141) hX dX5_judge_130 (by decide) (fun c130 => ?_) (fun c130 => ?_)
      · refine zk_aload_n hX dX5_judge_141 rfl ?_
        refine zk_aload_n hX dX5_judge_142 rfl ?_
        refine zk_getI hX dX5_judge_143 flX5_31 (zPok (by first | assumption | omega)) (zPoz _ (by first | assumption | omega)).1 ?_
        rw [zsi_1, if_neg (by omega), g4]
        refine zk_bipush (v := -9) hX dX5_judge_146 (by decide) ?_
        refine zk_icmp_ne (tgt := 155) hX dX5_judge_148 (by decide) (fun c148 => ?_) (fun c148 => ?_)
        · exact absurd c148 (by decide)
        refine zk_iconst (v := 1) hX dX5_judge_151 (by decide) ?_
        refine zk_goto (tgt := 156) hX dX5_judge_152 (by decide) ?_
        refine zk_putI hX dX5_judge_156 plX5_63 (fun h => by cases h) (zPok (by first | assumption | omega)) (zPoz _ (by first | assumption | omega)).1 rfl rfl ?_
        refine zk_vret hX hE rfl ⟨rfl, rfl⟩ dX5_judge_159 ⟨rfl, ?_⟩
        first
        | exact fin _ (by rw [if_pos (Nat.pos_of_ne_zero (fun q => c115 (by rw [q]; decide)))])
        | exact fin _ (by rw [if_neg (fun q => nI_nle q (by omega) c115), if_pos (by have := mt (zsub_0 (by omega) (by omega)).mpr c130; omega)])
        | exact fin _ (by rw [if_neg (fun q => nI_nle q (by omega) c115), if_neg (by have := (zsub_0 (by omega) (by omega)).mp c130; omega), if_pos rfl])
      · refine zk_aload_n hX dX5_judge_133 rfl ?_
        refine zk_iconst (v := 2) hX dX5_judge_134 (by decide) ?_
        refine zk_putI hX dX5_judge_135 plX5_63 (fun h => by cases h) (zPok (by first | assumption | omega)) (zPoz _ (by first | assumption | omega)).1 rfl rfl ?_
        refine zk_goto (tgt := 159) hX dX5_judge_138 (by decide) ?_
        refine zk_vret hX hE rfl ⟨rfl, rfl⟩ dX5_judge_159 ⟨rfl, ?_⟩
        first
        | exact fin _ (by rw [if_pos (Nat.pos_of_ne_zero (fun q => c115 (by rw [q]; decide)))])
        | exact fin _ (by rw [if_neg (fun q => nI_nle q (by omega) c115), if_pos (by have := mt (zsub_0 (by omega) (by omega)).mpr c130; omega)])
        | exact fin _ (by rw [if_neg (fun q => nI_nle q (by omega) c115), if_neg (by have := (zsub_0 (by omega) (by omega)).mp c130; omega), if_pos rfl])
    · refine zk_aload_n hX dX5_judge_118 rfl ?_
      refine zk_iconst (v := 3) hX dX5_judge_119 (by decide) ?_
      refine zk_putI hX dX5_judge_120 plX5_63 (fun h => by cases h) (zPok (by first | assumption | omega)) (zPoz _ (by first | assumption | omega)).1 rfl rfl ?_
      refine zk_goto (tgt := 159) hX dX5_judge_123 (by decide) ?_
      refine zk_vret hX hE rfl ⟨rfl, rfl⟩ dX5_judge_159 ⟨rfl, ?_⟩
      first
      | exact fin _ (by rw [if_pos (Nat.pos_of_ne_zero (fun q => c115 (by rw [q]; decide)))])
      | exact fin _ (by rw [if_neg (fun q => nI_nle q (by omega) c115), if_pos (by have := mt (zsub_0 (by omega) (by omega)).mpr c130; omega)])
      | exact fin _ (by rw [if_neg (fun q => nI_nle q (by omega) c115), if_neg (by have := (zsub_0 (by omega) (by omega)).mp c130; omega), if_pos rfl])
  refine zk_aload_n hX dX5_judge_0 rfl ?_
  refine zk_aload_n hX dX5_judge_1 rfl ?_
  refine zk_V0i hX dX5_judge_2 kcX5_weigh mlX5_38 viX5_weigh rfl (zPok (by first | assumption | omega)) (zPoz _ (by first | assumption | omega)).1 (s_X5_weigh hw hp hab) (Nat.le_of_ble_eq_true rfl) rfl ?_
  refine zk_putI hX dX5_judge_5 plX5_42 (fun h => by cases h) (zPok (by first | assumption | omega)) (zPoz _ (by first | assumption | omega)).1 rfl rfl ?_
  refine zk_aload_n hX dX5_judge_8 rfl ?_
  refine zk_aload_n hX dX5_judge_9 rfl ?_
  refine zk_aload_n hX dX5_judge_10 rfl ?_
  refine zk_getR hX dX5_judge_11 flX5_9 (zPok (by first | assumption | omega)) (zPoz _ (by first | assumption | omega)).1 (((zWf_i hw) _ _ (by omega)).trans (zPoz _ (by first | assumption | omega)).2.2.2.2.1) ?_
  refine zk_aload_n hX dX5_judge_14 rfl ?_
  refine zk_getR hX dX5_judge_15 flX5_18 (zPok (by first | assumption | omega)) (zPoz _ (by first | assumption | omega)).1 (((zWf_i hw) _ _ (by omega)).trans (zPoz _ (by first | assumption | omega)).2.2.2.2.2.1) ?_
  refine zk_V2i hX dX5_judge_18 kcX2_allCells mlX5_45 viX2_allCells rfl k_26 z_26 c1 (Nat.le_of_ble_eq_true rfl) rfl ?_
  refine zk_putI hX dX5_judge_21 plX5_51 (fun h => by cases h) (zPok (by first | assumption | omega)) (zPoz _ (by first | assumption | omega)).1 rfl rfl ?_
  refine zk_aload_n hX dX5_judge_24 rfl ?_
  refine zk_getI hX dX5_judge_25 flX5_42 (zPok (by first | assumption | omega)) (zPoz _ (by first | assumption | omega)).1 ?_
  rw [zsi_1, if_neg (by omega), zsetS_1, zsi_1, if_pos ⟨rfl, rfl⟩]
  refine zk_istore (lo' := [_, _, _, _, _]) hX dX5_judge_28 (Nat.le_of_ble_eq_true rfl) rfl rfl ?_
  refine zk_aload_n hX dX5_judge_30 rfl ?_
  refine zk_getI hX dX5_judge_31 flX5_31 (zPok (by first | assumption | omega)) (zPoz _ (by first | assumption | omega)).1 ?_
  rw [zsi_1, if_neg (by omega), zsetS_1, zsi_1, if_neg (by omega), hm]
  refine zk_if_lt (tgt := 103) hX dX5_judge_34 (by decide) (fun c34 => ?_) (fun c34 => ?_)
  rotate_left
  · exact absurd (by decide) c34
  exact tail _ _ (zWf_of hw rfl) rfl
def ztup (t : Nat → Int32) (j : Nat) : Nat → Int32 := fun i => if i = j then t j + 1 else t i
theorem s_X5_judge_m {G : zG} {w : zW} {D : zD} {p T j : Nat} (hw : zWf w) (hp : p < 12) (hH : cHd w 26 D) (hD : zDok D) (hT : zT6 D (w.1 (48 + 4 * p))) (hT9 : T ≤ 99) (hj : j < dJ D) (hm : w.1 (47 + 4 * p) 4 = nI j) (hj1 : w.1 (48 + 4 * p) j + 1 ≤ 2) :
    zCv G mX5_judge [.ref (47 + 4 * p), .ref 26, .int (nI T), .ref 163] w (fun w' => cJd w p D T (zld (w.1 (48 + 4 * p))) (max (zwrL zno (zP D (w.1 (48 + 4 * p)) (-1))) (zwrL zno (zP D (ztup (w.1 (48 + 4 * p)) j) (-1)))) (max (zld (w.1 (48 + 4 * p))) (zld (ztup (w.1 (48 + 4 * p)) j))) (nI j) w') := by
  have h6 := hD.1.2.2
  have hab := fun j hj => (zab_2 (hT j hj).1).2.1
  have h1 := zld_le (fun j hj => (hT j hj).1)
  have h2 := zP_len hD (w.1 (48 + 4 * p)) (-1)
  have h3 := zwrL_le (zP D (w.1 (48 + 4 * p)) (-1)) zno
  have hb2 : ∀ i, i < 6 → -2 ≤ ztup (w.1 (48 + 4 * p)) j i ∧ ztup (w.1 (48 + 4 * p)) j i ≤ 2 := by
    intro i hi
    unfold ztup
    by_cases q : i = j
    · rw [if_pos q]
      have := (hT j (by omega)).1
      exact ⟨by grind, hj1⟩
    · rw [if_neg q]
      exact (hT i hi).1
  have hab2 := fun i hi => (zab_2 (hb2 i hi)).2.1
  have h12 := zld_le hb2
  have h22 := zP_len hD (ztup (w.1 (48 + 4 * p)) j) (-1)
  have h32 := zwrL_le (zP D (ztup (w.1 (48 + 4 * p)) j) (-1)) zno
  generalize eL : zld (w.1 (48 + 4 * p)) = L at *
  generalize eL2 : zld (ztup (w.1 (48 + 4 * p)) j) = L2 at *
  generalize eW : zwrL zno (zP D (w.1 (48 + 4 * p)) (-1)) = W1 at *
  generalize eW2 : zwrL zno (zP D (ztup (w.1 (48 + 4 * p)) j) (-1)) = W2 at *
  have e1 : (zsi w (47 + 4 * p) 5 (nI L)).1 (48 + 4 * p) = w.1 (48 + 4 * p) := zsi_o (by omega)
  have c0 := s_X5_weigh (G := G) hw hp hab
  rw [eL] at c0
  have c1 := s_X2_allCells (G := G) (k := 49 + 4 * p) (tk := 48 + 4 * p) (w := zsi w (47 + 4 * p) 5 (nI L)) (zWf_i hw) (cHd_o hH (fun a _ _ => zsi_o (by omega))) hD (zPoD hp) (zPoT hp)
  rw [e1, eW] at c1
  generalize eC : zsi (zsetS (zsi w (47 + 4 * p) 5 (nI L)) (49 + 4 * p) (zdkL zno (zP D (w.1 (48 + 4 * p)) (-1)))) (47 + 4 * p) 7 (nI W1) = wc
  have hwc : zWf wc := by rw [← eC]; exact zWf_of hw rfl
  have g7 : wc.1 (47 + 4 * p) 7 = nI W1 := by rw [← eC, zsi_1, if_pos ⟨rfl, rfl⟩]
  have g4 : wc.1 (47 + 4 * p) 4 = nI j := by rw [← eC, zsi_1, if_neg (by omega), zsetS_1, zsi_1, if_neg (by omega), hm]
  have g5 : wc.1 (47 + 4 * p) 5 = nI L := by rw [← eC, zsi_1, if_neg (by omega), zsetS_1, zsi_1, if_pos ⟨rfl, rfl⟩]
  have gF : zFr [47 + 4 * p, 48 + 4 * p] [49 + 4 * p, 163] [] w wc := by rw [← eC]; exact zFr_t (zFr_t (zFr_i (by simp) (by omega)) (zFr_S (by simp))) (zFr_i (by simp) (by omega))
  have g8 : wc.1 (48 + 4 * p) = w.1 (48 + 4 * p) := by rw [← eC, zsi_o (by omega), zsetS_1, zsi_o (by omega)]
  have gS : zHas wc (49 + 4 * p) (zdkL zno (zP D (w.1 (48 + 4 * p)) (-1))) := by rw [← eC]; exact zsetS_has
  have gd : (zsi wc (48 + 4 * p) j (w.1 (48 + 4 * p) j + 1)).1 (48 + 4 * p) = ztup (w.1 (48 + 4 * p)) j := by
    funext i
    rw [zsi_1, g8]
    unfold ztup
    by_cases q : i = j
    · rw [if_pos ⟨rfl, q⟩, if_pos q]
    · rw [if_neg (fun z => q z.2), if_neg q]
  generalize eD : zsi wc (48 + 4 * p) j (w.1 (48 + 4 * p) j + 1) = wd at gd
  have hwd : zWf wd := by rw [← eD]; exact zWf_of hwc rfl
  have gdo : ∀ a, a ≠ 48 + 4 * p → wd.1 a = wc.1 a := by intro a ha; rw [← eD]; exact zsi_o ha
  have c3 := s_X5_weigh (G := G) (w := wd) hwd hp (by rw [gd]; exact hab2)
  rw [gd, eL2] at c3
  have c4 := s_X2_allCells (G := G) (w := wd) (k := 163) (tk := 48 + 4 * p) hwd (cHd_o hH (fun a h1 h2 => by rw [gdo a (by omega)]; exact gF.2.1 a (by simp; omega) (by omega))) hD (⟨by decide, by decide +kernel⟩) (zPoT hp)
  rw [gd, eW2] at c4
  have gFd : zFr [47 + 4 * p, 48 + 4 * p] [49 + 4 * p, 163] [] w wd := by rw [← eD]; exact zFr_t gF (zFr_i (by simp) (by omega))
  have g2c : wd.2.1 = wc.2.1 := by rw [← eD]; rfl
  refine zC_of (lo := [_, _, _, _, _]) kcX5_judge (Nat.le_of_ble_eq_true rfl) rfl (fun X hX hE => ?_)
  have tail : ∀ w2 (v : Value), zWf w2 → w2 = zsi (zsi (zsetS wd 163 (zdkL zno (zP D (ztup (w.1 (48 + 4 * p)) j) (-1)))) (47 + 4 * p) 7 (nI (max W1 W2))) (48 + 4 * p) j (w.1 (48 + 4 * p) j) →
      zk0 G X mX5_judge 103 [.ref (47 + 4 * p), .ref 26, .int (nI T), v, .int (nI (max L L2))] [] w2 := by
    intro w2 v hw2 e2
    have k7 : w2.1 (47 + 4 * p) 7 = nI (max W1 W2) := by rw [e2, zsi_1, if_neg (by omega), zsi_1, if_pos ⟨rfl, rfl⟩]
    have k4 : w2.1 (47 + 4 * p) 4 = nI j := by rw [e2, zsi_1, if_neg (by omega), zsi_1, if_neg (by omega), zsetS_1, gdo _ (by omega), g4]
    have k5 : w2.1 (47 + 4 * p) 5 = nI L := by rw [e2, zsi_1, if_neg (by omega), zsi_1, if_neg (by omega), zsetS_1, gdo _ (by omega), g5]
    have kF : zFr [47 + 4 * p, 48 + 4 * p] [49 + 4 * p, 163] [] w w2 := by rw [e2]; exact zFr_t (zFr_t (zFr_t gFd (zFr_S (by simp))) (zFr_i (by simp) (by omega))) (zFr_i (by simp) (by omega))
    have k8 : w2.1 (48 + 4 * p) = w.1 (48 + 4 * p) := by
      rw [e2]
      funext i
      rw [zsi_1]
      by_cases q : i = j
      · rw [if_pos ⟨rfl, q⟩, q]
      · rw [if_neg (fun z => q z.2), zsi_o (by omega), zsetS_1, gd]
        unfold ztup
        rw [if_neg q]
    have kS : zHas w2 (49 + 4 * p) (zdkL zno (zP D (w.1 (48 + 4 * p)) (-1))) := by
      refine zHas_o gS ?_
      rw [e2, ← g2c]
      exact zsetS_2 (by omega)
    have fin : ∀ kd, kd = (if 0 < max W1 W2 then 3 else if T < max L L2 then 2 else if nI j = -9 then 1 else 4) → cJd w p D T L (max W1 W2) (max L L2) (nI j) (zsi (zsi w2 (47 + 4 * p) 6 (nI (max L L2) - nI T)) (47 + 4 * p) 3 kd) := by
      intro kd hkd
      refine ⟨zFr_t kF (zFr_t (zFr_i (by simp) (by omega)) (zFr_i (by simp) (by omega))), ?_, ⟨?_, ?_, ?_, ?_, ?_⟩, kS⟩
      · rw [zsi_o (by omega), zsi_o (by omega), k8]
      · rw [zsi_1, if_pos ⟨rfl, rfl⟩, hkd]
      · rw [zsi_1, if_neg (by omega), zsi_1, if_neg (by omega), k4]
      · rw [zsi_1, if_neg (by omega), zsi_1, if_neg (by omega), k5]
      · rw [zsi_1, if_neg (by omega), zsi_1, if_pos ⟨rfl, rfl⟩]
      · rw [zsi_1, if_neg (by omega), zsi_1, if_neg (by omega), k7]
    have n9 : ¬ nI j = -9 := fun q => by
      have q1 : (0 : Int32) ≤ nI j := nI_pos' (by omega)
      rw [q] at q1
      exact absurd q1 (by decide)
    have hm1 : max W1 W2 ≤ 14 := Nat.max_le.mpr ⟨by omega, by omega⟩
    have hm2 : max L L2 ≤ 12 := Nat.max_le.mpr ⟨by omega, by omega⟩
    clear e2
    refine zk_aload_n hX dX5_judge_103 rfl ?_
    refine zk_iload hX dX5_judge_104 rfl ?_
    refine zk_iload_n hX dX5_judge_106 rfl ?_
    refine zk_isub hX dX5_judge_107 ?_
    refine zk_putI hX dX5_judge_108 plX5_60 (fun h => by cases h) (zPok (by first | assumption | omega)) (zPoz _ (by first | assumption | omega)).1 rfl rfl ?_
    refine zk_aload_n hX dX5_judge_111 rfl ?_
    refine zk_getI hX dX5_judge_112 flX5_51 (zPok (by first | assumption | omega)) (zPoz _ (by first | assumption | omega)).1 ?_
    rw [zsi_1, if_neg (by omega), k7]
    refine zk_if_le (tgt := 126) hX dX5_judge_115 (by decide) (fun c115 => ?_) (fun c115 => ?_)
    · refine zk_aload_n hX dX5_judge_126 rfl ?_
      refine zk_getI hX dX5_judge_127 flX5_60 (zPok (by first | assumption | omega)) (zPoz _ (by first | assumption | omega)).1 ?_
      rw [zsi_1, if_pos ⟨rfl, rfl⟩]
      refine zk_if_le (tgt := 141) hX dX5_judge_130 (by decide) (fun c130 => ?_) (fun c130 => ?_)
      · refine zk_aload_n hX dX5_judge_141 rfl ?_
        refine zk_aload_n hX dX5_judge_142 rfl ?_
        refine zk_getI hX dX5_judge_143 flX5_31 (zPok (by first | assumption | omega)) (zPoz _ (by first | assumption | omega)).1 ?_
        rw [zsi_1, if_neg (by omega), k4]
        refine zk_bipush (v := -9) hX dX5_judge_146 (by decide) ?_
        refine zk_icmp_ne (tgt := 155) hX dX5_judge_148 (by decide) (fun c148 => ?_) (fun c148 => ?_)
        rotate_left
        · exact absurd c148 n9
        refine zk_iconst (v := 4) hX dX5_judge_155 (by decide) ?_
        refine zk_putI hX dX5_judge_156 plX5_63 (fun h => by cases h) (zPok (by first | assumption | omega)) (zPoz _ (by first | assumption | omega)).1 rfl rfl ?_
        refine zk_vret hX hE rfl ⟨rfl, rfl⟩ dX5_judge_159 ⟨rfl, ?_⟩
        first
        | exact fin _ (by rw [if_pos (Nat.pos_of_ne_zero (fun q => c115 (by rw [q]; decide)))])
        | exact fin _ (by rw [if_neg (fun q => nI_nle q (by omega) c115), if_pos (by have := mt (zsub_0 (by omega) (by omega)).mpr c130; omega)])
        | exact fin _ (by rw [if_neg (fun q => nI_nle q (by omega) c115), if_neg (by have := (zsub_0 (by omega) (by omega)).mp c130; omega), if_neg n9])
      · refine zk_aload_n hX dX5_judge_133 rfl ?_
        refine zk_iconst (v := 2) hX dX5_judge_134 (by decide) ?_
        refine zk_putI hX dX5_judge_135 plX5_63 (fun h => by cases h) (zPok (by first | assumption | omega)) (zPoz _ (by first | assumption | omega)).1 rfl rfl ?_
        refine zk_goto (tgt := 159) hX dX5_judge_138 (by decide) ?_
        refine zk_vret hX hE rfl ⟨rfl, rfl⟩ dX5_judge_159 ⟨rfl, ?_⟩
        first
        | exact fin _ (by rw [if_pos (Nat.pos_of_ne_zero (fun q => c115 (by rw [q]; decide)))])
        | exact fin _ (by rw [if_neg (fun q => nI_nle q (by omega) c115), if_pos (by have := mt (zsub_0 (by omega) (by omega)).mpr c130; omega)])
        | exact fin _ (by rw [if_neg (fun q => nI_nle q (by omega) c115), if_neg (by have := (zsub_0 (by omega) (by omega)).mp c130; omega), if_neg n9])
    · refine zk_aload_n hX dX5_judge_118 rfl ?_
      refine zk_iconst (v := 3) hX dX5_judge_119 (by decide) ?_
      refine zk_putI hX dX5_judge_120 plX5_63 (fun h => by cases h) (zPok (by first | assumption | omega)) (zPoz _ (by first | assumption | omega)).1 rfl rfl ?_
      refine zk_goto (tgt := 159) hX dX5_judge_123 (by decide) ?_
      refine zk_vret hX hE rfl ⟨rfl, rfl⟩ dX5_judge_159 ⟨rfl, ?_⟩
      first
      | exact fin _ (by rw [if_pos (Nat.pos_of_ne_zero (fun q => c115 (by rw [q]; decide)))])
      | exact fin _ (by rw [if_neg (fun q => nI_nle q (by omega) c115), if_pos (by have := mt (zsub_0 (by omega) (by omega)).mpr c130; omega)])
      | exact fin _ (by rw [if_neg (fun q => nI_nle q (by omega) c115), if_neg (by have := (zsub_0 (by omega) (by omega)).mp c130; omega), if_neg n9])
  refine zk_aload_n hX dX5_judge_0 rfl ?_
  refine zk_aload_n hX dX5_judge_1 rfl ?_
  refine zk_V0i hX dX5_judge_2 kcX5_weigh mlX5_38 viX5_weigh rfl (zPok (by first | assumption | omega)) (zPoz _ (by first | assumption | omega)).1 c0 (Nat.le_of_ble_eq_true rfl) rfl ?_
  refine zk_putI hX dX5_judge_5 plX5_42 (fun h => by cases h) (zPok (by first | assumption | omega)) (zPoz _ (by first | assumption | omega)).1 rfl rfl ?_
  refine zk_aload_n hX dX5_judge_8 rfl ?_
  refine zk_aload_n hX dX5_judge_9 rfl ?_
  refine zk_aload_n hX dX5_judge_10 rfl ?_
  refine zk_getR hX dX5_judge_11 flX5_9 (zPok (by first | assumption | omega)) (zPoz _ (by first | assumption | omega)).1 (((zWf_i hw) _ _ (by omega)).trans (zPoz _ (by first | assumption | omega)).2.2.2.2.1) ?_
  refine zk_aload_n hX dX5_judge_14 rfl ?_
  refine zk_getR hX dX5_judge_15 flX5_18 (zPok (by first | assumption | omega)) (zPoz _ (by first | assumption | omega)).1 (((zWf_i hw) _ _ (by omega)).trans (zPoz _ (by first | assumption | omega)).2.2.2.2.2.1) ?_
  refine zk_V2i hX dX5_judge_18 kcX2_allCells mlX5_45 viX2_allCells rfl k_26 z_26 c1 (Nat.le_of_ble_eq_true rfl) rfl ?_
  refine zk_putI hX dX5_judge_21 plX5_51 (fun h => by cases h) (zPok (by first | assumption | omega)) (zPoz _ (by first | assumption | omega)).1 rfl rfl ?_
  rw [eC]
  refine zk_aload_n hX dX5_judge_24 rfl ?_
  refine zk_getI hX dX5_judge_25 flX5_42 (zPok (by first | assumption | omega)) (zPoz _ (by first | assumption | omega)).1 ?_
  rw [g5]
  refine zk_istore (lo' := [_, _, _, _, _]) hX dX5_judge_28 (Nat.le_of_ble_eq_true rfl) rfl rfl ?_
  refine zk_aload_n hX dX5_judge_30 rfl ?_
  refine zk_getI hX dX5_judge_31 flX5_31 (zPok (by first | assumption | omega)) (zPoz _ (by first | assumption | omega)).1 ?_
  rw [g4]
  refine zk_if_lt (tgt := 103) hX dX5_judge_34 (by decide) (fun c34 => ?_) (fun c34 => ?_)
  · exact absurd c34 (nI_pos (by omega))
  refine zk_aload_n hX dX5_judge_37 rfl ?_
  refine zk_getI hX dX5_judge_38 flX5_31 (zPok (by first | assumption | omega)) (zPoz _ (by first | assumption | omega)).1 ?_
  rw [g4]
  refine zk_bipush (v := 6) hX dX5_judge_41 (by decide) ?_
  refine zk_icmp_ge (tgt := 103) hX dX5_judge_43 (by decide) (fun c43 => ?_) (fun c43 => ?_)
  · exact absurd c43 (nI_ge (b := 6) (by omega) (by decide))
  refine zk_aload_n hX dX5_judge_46 rfl ?_
  refine zk_getR hX dX5_judge_47 flX5_9 (zPok (by first | assumption | omega)) (zPoz _ (by first | assumption | omega)).1 ((hwc _ _ (by omega)).trans (zPoz _ (by first | assumption | omega)).2.2.2.2.1) ?_
  refine zk_aload_n hX dX5_judge_50 rfl ?_
  refine zk_getI hX dX5_judge_51 flX5_31 (zPok (by first | assumption | omega)) (zPoz _ (by first | assumption | omega)).1 ?_
  rw [g4]
  refine zk_dup2 hX dX5_judge_54 rfl rfl ?_
  refine zk_ialdE hX dX5_judge_55 rfl (show 48 + 4 * _ < 166 by omega) (zPoz _ (by first | assumption | omega)).2.1 (by first | assumption | omega) rfl ?_
  rw [g8]
  refine zk_iconst (v := 1) hX dX5_judge_56 (by decide) ?_
  refine zk_iadd hX dX5_judge_57 ?_
  refine zk_iastE hX dX5_judge_58 rfl (show 48 + 4 * _ < 166 by omega) (zPoz _ (by first | assumption | omega)).2.1 (by first | assumption | omega) rfl ?_
  rw [eD]
  refine zk_iload hX dX5_judge_59 rfl ?_
  refine zk_aload_n hX dX5_judge_61 rfl ?_
  refine zk_V0i hX dX5_judge_62 kcX5_weigh mlX5_38 viX5_weigh rfl (zPok (by first | assumption | omega)) (zPoz _ (by first | assumption | omega)).1 c3 (Nat.le_of_ble_eq_true rfl) rfl ?_
  refine zk_mmax hX dX5_judge_65 mlX5_54 ⟨rfl, rfl⟩ ?_
  rw [zmx _ _ (by omega) (by omega)]
  refine zk_istore (lo' := [_, _, _, _, _]) hX dX5_judge_68 (Nat.le_of_ble_eq_true rfl) rfl rfl ?_
  refine zk_aload_n hX dX5_judge_70 rfl ?_
  refine zk_aload_n hX dX5_judge_71 rfl ?_
  refine zk_getI hX dX5_judge_72 flX5_51 (zPok (by first | assumption | omega)) (zPoz _ (by first | assumption | omega)).1 ?_
  rw [gdo _ (by omega), g7]
  refine zk_aload_n hX dX5_judge_75 rfl ?_
  refine zk_aload_n hX dX5_judge_76 rfl ?_
  refine zk_getR hX dX5_judge_77 flX5_9 (zPok (by first | assumption | omega)) (zPoz _ (by first | assumption | omega)).1 ((hwd _ _ (by omega)).trans (zPoz _ (by first | assumption | omega)).2.2.2.2.1) ?_
  refine zk_aload_n hX dX5_judge_80 rfl ?_
  refine zk_V2i hX dX5_judge_81 kcX2_allCells mlX5_45 viX2_allCells rfl k_26 z_26 c4 (Nat.le_of_ble_eq_true rfl) rfl ?_
  refine zk_mmax hX dX5_judge_84 mlX5_54 ⟨rfl, rfl⟩ ?_
  rw [zmx _ _ (by omega) (by omega)]
  refine zk_putI hX dX5_judge_87 plX5_51 (fun h => by cases h) (zPok (by first | assumption | omega)) (zPoz _ (by first | assumption | omega)).1 rfl rfl ?_
  refine zk_aload_n hX dX5_judge_90 rfl ?_
  refine zk_getR hX dX5_judge_91 flX5_9 (zPok (by first | assumption | omega)) (zPoz _ (by first | assumption | omega)).1 (((zWf_i (zWf_of hwd rfl (w' := zsetS wd 163 (zdkL zno (zP D (ztup (w.1 (48 + 4 * p)) j) (-1)))))) _ _ (by omega)).trans (zPoz _ (by first | assumption | omega)).2.2.2.2.1) ?_
  refine zk_aload_n hX dX5_judge_94 rfl ?_
  refine zk_getI hX dX5_judge_95 flX5_31 (zPok (by first | assumption | omega)) (zPoz _ (by first | assumption | omega)).1 ?_
  rw [zsi_1, if_neg (by omega), zsetS_1, gdo _ (by omega), g4]
  refine zk_dup2 hX dX5_judge_98 rfl rfl ?_
  refine zk_ialdE hX dX5_judge_99 rfl (show 48 + 4 * _ < 166 by omega) (zPoz _ (by first | assumption | omega)).2.1 (by first | assumption | omega) rfl ?_
  rw [zsi_1, if_neg (by omega), zsetS_1, gd, show ztup (w.1 (48 + 4 * p)) j j = w.1 (48 + 4 * p) j + 1 from if_pos rfl]
  refine zk_iconst (v := 1) hX dX5_judge_100 (by decide) ?_
  refine zk_isub hX dX5_judge_101 ?_
  rw [show w.1 (48 + 4 * p) j + 1 - 1 = w.1 (48 + 4 * p) j by grind]
  refine zk_iastE hX dX5_judge_102 rfl (show 48 + 4 * _ < 166 by omega) (zPoz _ (by first | assumption | omega)).2.1 (by first | assumption | omega) rfl ?_
  exact tail _ _ (zWf_of hwd rfl) rfl

