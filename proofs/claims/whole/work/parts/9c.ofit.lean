/-! fit: the calls -/
theorem s_X11_fit_bad {G : zG} {w : zW} (hw : zWf w) (l : Int32) (h : ¬ (0 ≤ l ∧ l < w.1 114 0)) : zEi G mX11_fit [.ref 0, .int l] w (-1) w := by
  refine zC_of (lo := [_, _, _]) kcX11_fit (Nat.le_of_ble_eq_true rfl) rfl (fun X hX hE => ?_)
  refine zk_aload_n hX dX11_fit_0 rfl ?_
  refine zk_iload_n hX dX11_fit_1 rfl ?_
  refine zk_V1i hX dX11_fit_2 kcX11_isLooker mlX11_414 viX11_isLooker rfl k_0 z_0 (s_X11_isLooker hw _) (Nat.le_of_ble_eq_true rfl) rfl ?_
  refine zk_if_neB (tgt := 10) hX dX11_fit_5 (by decide) (fun c5 => ?_) (fun c5 => ?_)
  · exact absurd c5 h
  refine zk_iconst (v := -1) hX dX11_fit_8 (by decide) ?_
  refine zk_iret hX hE rfl ⟨rfl, rfl⟩ dX11_fit_9 ⟨_, rfl, ?_⟩
  exact ⟨rfl, rfl⟩
theorem s_X11_fit {G : zG} {w : zW} {b : zBd} {n nl nc l z u v : Nat} {Zf : Nat → zS} {mo : Nat → Bool} {K : zCd} (hw : zWf w) (hn : n ≤ 12) (hn8 : nl ≤ 8) (hK : w.1 114 0 = nI nl) (hl : l < nl) (hC : cCs w n nc K) (hPs : cPs w n Zf mo z u v) (hB : cBs w b) (hL : zLm w 44 z u v) (ho : zlok z u v) :
    zCi G mX11_fit [.ref 0, .int (nI l)] w (fun r w' => r = nI (fc (zmxf (zHt b Zf mo K l nc) 27)) ∧ zFr [1, 114, 127, 128, 129, 130] [163] [] w w' ∧ (∀ i, i ≠ 9 → w'.1 114 i = w.1 114 i) ∧ (∀ i, i ≠ 0 → w'.1 1 i = w.1 1 i) ∧ w'.1 1 0 = nI (zHt b Zf mo K l nc (zmxf (zHt b Zf mo K l nc) 27))) := by
  have h24 := hC.1
  have hH24 : ∀ n, zHt b Zf mo K l nc n ≤ 24 := fun n => Nat.le_trans (zcnt_le _ _) h24
  refine zC_of (lo := [_, _, _]) kcX11_fit (Nat.le_of_ble_eq_true rfl) rfl (fun X hX hE => ?_)
  have loop : ∀ m i w1, i + m = nc → zFr [114, 127, 128, 129, 130] [163] [] w w1 → (∀ i, i ≠ 9 → w1.1 114 i = w.1 114 i) → (∀ q, q < 27 → w1.1 130 q = nI (zHt b Zf mo K l i q)) → zk0 G X mX11_fit 19 [.ref 0, .int (nI l), .int (nI i)] [] w1 := by
    intro m
    induction m with
    | zero =>
      intro i w1 hi hF h4 hH
      obtain rfl : i = nc := by omega
      have hw1 := zFr_wf hF hw
      have hC1 := cCs_f hC hF h4 (by decide)
      have hm := zmxf_lt (zHt b Zf mo K l i) 26
      refine zk_iload_n hX dX11_fit_19 rfl ?_
      refine zk_aload_n hX dX11_fit_20 rfl ?_
      refine zk_getR hX dX11_fit_21 flX11_76 k_0 z_0 (hw1 _ _ (by decide) |>.trans r_0_12) ?_
      refine zk_getI hX dX11_fit_24 flX11_421 k_114 z_114 ?_
      rw [hC1.2.1]
      refine zk_icmp_ge (tgt := 85) hX dX11_fit_27 (by decide) (fun c27 => ?_) (fun c27 => ?_)
      rotate_left
      · exact absurd (nI_le (Nat.le_refl _) (by omega)) c27
      refine zk_aload_n hX dX11_fit_85 rfl ?_
      refine zk_getR hX dX11_fit_86 flX11_76 k_0 z_0 (hw1 _ _ (by decide) |>.trans r_0_12) ?_
      refine zk_V0i hX dX11_fit_89 kcX4_bestFit mlX11_452 viX4_bestFit rfl k_114 z_114 (s_X4_bestFit hw1 hH24 hH) (Nat.le_of_ble_eq_true rfl) rfl ?_
      refine zk_istore_n (lo' := [_, _, _]) hX dX11_fit_92 (Nat.le_of_ble_eq_true rfl) rfl rfl ?_
      refine zk_aload_n hX dX11_fit_93 rfl ?_
      refine zk_getR hX dX11_fit_94 flX11_12 k_0 z_0 (hw1 _ _ (by decide) |>.trans r_0_0) ?_
      refine zk_aload_n hX dX11_fit_97 rfl ?_
      refine zk_getR hX dX11_fit_98 flX11_76 k_0 z_0 (hw1 _ _ (by decide) |>.trans r_0_12) ?_
      refine zk_getR hX dX11_fit_101 flX11_455 k_114 z_114 (hw1 _ _ (by decide) |>.trans r_114_10) ?_
      refine zk_iload_n hX dX11_fit_104 rfl ?_
      refine zk_ialdE hX dX11_fit_105 rfl k_130 z_130 (by first | assumption | omega) rfl ?_
      rw [hH _ hm]
      refine zk_V1i hX dX11_fit_106 kcX9_tell mlX11_132 viX9_tell rfl k_1 z_1 (s_X9_tell _) (Nat.le_of_ble_eq_true rfl) rfl ?_
      refine zk_pop hX dX11_fit_109 rfl ?_
      refine zk_iload_n hX dX11_fit_110 rfl ?_
      refine zk_S1i hX dX11_fit_111 kcX4_fitCode mlX11_458 smX4_fitCode rfl (s_X4_fitCode hm) (Nat.le_of_ble_eq_true rfl) rfl ?_
      refine zk_iret hX hE rfl ⟨rfl, rfl⟩ dX11_fit_114 ⟨_, rfl, ?_⟩
      refine ⟨rfl, zFr_t (zFr_s hF (by decide)) (zFr_i (by decide) (by decide)), fun i hi => ?_, fun i hi => ?_, by rw [zsi_1, if_pos ⟨rfl, rfl⟩]⟩
      · rw [zsi_o (by decide)]
        exact h4 i hi
      · rw [zsi_1, if_neg (fun z => hi z.2), hF.2.1 1 (by decide) (by decide)]
    | succ m ih =>
      intro i w1 hi hF h4 hH
      have hw1 := zFr_wf hF hw
      have hC1 := cCs_f hC hF h4 (by decide)
      obtain ⟨g1, g2, g3, g4⟩ := hC1.2.2 i (by omega)
      have h9 := fun w2 => ih (i + 1) w2 (by omega)
      by_cases q : K.1 i = nI l
      · refine zk_iload_n hX dX11_fit_19 rfl ?_
        refine zk_aload_n hX dX11_fit_20 rfl ?_
        refine zk_getR hX dX11_fit_21 flX11_76 k_0 z_0 (hw1 _ _ (by decide) |>.trans r_0_12) ?_
        refine zk_getI hX dX11_fit_24 flX11_421 k_114 z_114 ?_
        rw [hC1.2.1]
        refine zk_icmp_ge (tgt := 85) hX dX11_fit_27 (by decide) (fun c27 => ?_) (fun c27 => ?_)
        · exact absurd c27 (nI_ge (by omega) (by omega))
        refine zk_aload_n hX dX11_fit_30 rfl ?_
        refine zk_getR hX dX11_fit_31 flX11_76 k_0 z_0 (hw1 _ _ (by decide) |>.trans r_0_12) ?_
        refine zk_getR hX dX11_fit_34 flX11_433 k_114 z_114 (hw1 _ _ (by decide) |>.trans r_114_3) ?_
        refine zk_iload_n hX dX11_fit_37 rfl ?_
        refine zk_ialdE hX dX11_fit_38 rfl k_124 z_124 (by first | assumption | omega) rfl ?_
        rw [g1]
        refine zk_iload_n hX dX11_fit_39 rfl ?_
        refine zk_icmp_eq (tgt := 46) hX dX11_fit_40 (by decide) (fun c40 => ?_) (fun c40 => ?_)
        rotate_left
        · exact absurd q c40
        refine zk_aload_n hX dX11_fit_46 rfl ?_
        refine zk_aload_n hX dX11_fit_47 rfl ?_
        refine zk_getR hX dX11_fit_48 flX11_76 k_0 z_0 (hw1 _ _ (by decide) |>.trans r_0_12) ?_
        refine zk_getR hX dX11_fit_51 flX11_436 k_114 z_114 (hw1 _ _ (by decide) |>.trans r_114_4) ?_
        refine zk_iload_n hX dX11_fit_54 rfl ?_
        refine zk_ialdE hX dX11_fit_55 rfl k_125 z_125 (by first | assumption | omega) rfl ?_
        rw [g2]
        refine zk_V1vp hX dX11_fit_56 kcX11_look mlX11_445 viX11_look rfl k_0 z_0 (s_X11_look hw1 hn g4 (cPs_f hPs hn hF (by decide)) (cBs_f hB hF (by decide)) (by unfold zLm; rw [hF.2.1 44 (by decide) (by decide)]; exact hL) ho) (Nat.le_of_ble_eq_true rfl) rfl (fun w2 q2 => ?_)
        obtain ⟨k1, k2⟩ := q2
        have hw2 := zFr_wf k1 hw1
        have hF2 : zFr [114, 127, 128, 129, 130] [163] [] w w2 := zFr_t hF (zFr_s k1 (by decide))
        have k4 : w2.1 126 i = K.2.2 i := (by rw [k1.2.1 126 (by decide) (by decide)]; exact g3)
        refine zk_aload_n hX dX11_fit_59 rfl ?_
        refine zk_getR hX dX11_fit_60 flX11_76 k_0 z_0 (hw2 _ _ (by decide) |>.trans r_0_12) ?_
        refine zk_aload_n hX dX11_fit_63 rfl ?_
        refine zk_getR hX dX11_fit_64 flX11_68 k_0 z_0 (hw2 _ _ (by decide) |>.trans r_0_11) ?_
        refine zk_aload_n hX dX11_fit_67 rfl ?_
        refine zk_getR hX dX11_fit_68 flX11_76 k_0 z_0 (hw2 _ _ (by decide) |>.trans r_0_12) ?_
        refine zk_getR hX dX11_fit_71 flX11_439 k_114 z_114 (hw2 _ _ (by decide) |>.trans r_114_5) ?_
        refine zk_iload_n hX dX11_fit_74 rfl ?_
        refine zk_ialdE hX dX11_fit_75 rfl k_126 z_126 (by first | assumption | omega) rfl ?_
        rw [k4]
        refine zk_V2vp hX dX11_fit_76 kcX4_tryFits mlX11_448 viX4_tryFits rfl k_114 z_114 (s_X4_tryFits (H := zHt b Zf mo K l i) hw2 (cBs_f hB hF2 (by decide)) k2 (fun q hq => by rw [k1.2.1 130 (by decide) (by decide)]; exact hH q hq)) (Nat.le_of_ble_eq_true rfl) rfl (fun w3 q3 => ?_)
        obtain ⟨k5, k6, k7⟩ := q3
        refine zk_iinc (lo' := [_, _, _]) hX dX11_fit_79 rfl (by first | exact zinc _ | exact rfl) (Nat.le_of_ble_eq_true rfl) rfl rfl ?_
        refine zk_goto (tgt := 19) hX dX11_fit_82 (by decide) ?_
        refine h9 w3 (zFr_t hF2 (zFr_s k5 (by decide))) (fun j hj => by rw [k6 j hj, k1.2.1 114 (by decide) (by decide)]; exact h4 j hj) (fun r hr => ?_)
        rw [k7 r hr]
        congr 1
        unfold zHt zhit1
        rw [zcnt_s]
        congr 1
        by_cases e : zoe (zgs b (Zf (K.2.1 i)) (mo (K.2.1 i)) (fe r) (fa r) (fd r)) = K.2.2 i
        · rw [if_pos e, if_pos ((zag_t q).mpr e)]
        · rw [if_neg e, if_neg (fun z => e ((zag_t q).mp z))]
      · refine zk_iload_n hX dX11_fit_19 rfl ?_
        refine zk_aload_n hX dX11_fit_20 rfl ?_
        refine zk_getR hX dX11_fit_21 flX11_76 k_0 z_0 (hw1 _ _ (by decide) |>.trans r_0_12) ?_
        refine zk_getI hX dX11_fit_24 flX11_421 k_114 z_114 ?_
        rw [hC1.2.1]
        refine zk_icmp_ge (tgt := 85) hX dX11_fit_27 (by decide) (fun c27 => ?_) (fun c27 => ?_)
        · exact absurd c27 (nI_ge (by omega) (by omega))
        refine zk_aload_n hX dX11_fit_30 rfl ?_
        refine zk_getR hX dX11_fit_31 flX11_76 k_0 z_0 (hw1 _ _ (by decide) |>.trans r_0_12) ?_
        refine zk_getR hX dX11_fit_34 flX11_433 k_114 z_114 (hw1 _ _ (by decide) |>.trans r_114_3) ?_
        refine zk_iload_n hX dX11_fit_37 rfl ?_
        refine zk_ialdE hX dX11_fit_38 rfl k_124 z_124 (by first | assumption | omega) rfl ?_
        rw [g1]
        refine zk_iload_n hX dX11_fit_39 rfl ?_
        refine zk_icmp_eq (tgt := 46) hX dX11_fit_40 (by decide) (fun c40 => ?_) (fun c40 => ?_)
        · exact absurd c40 q
        refine zk_goto (tgt := 79) hX dX11_fit_43 (by decide) ?_
        refine zk_iinc (lo' := [_, _, _]) hX dX11_fit_79 rfl (by first | exact zinc _ | exact rfl) (Nat.le_of_ble_eq_true rfl) rfl rfl ?_
        refine zk_goto (tgt := 19) hX dX11_fit_82 (by decide) ?_
        refine h9 w1 hF h4 (fun r hr => ?_)
        rw [hH r hr]
        unfold zHt
        rw [zcnt_f (zag_n q)]
  refine zk_aload_n hX dX11_fit_0 rfl ?_
  refine zk_iload_n hX dX11_fit_1 rfl ?_
  refine zk_V1i hX dX11_fit_2 kcX11_isLooker mlX11_414 viX11_isLooker rfl k_0 z_0 (s_X11_isLooker hw _) (Nat.le_of_ble_eq_true rfl) rfl ?_
  refine zk_if_neB (tgt := 10) hX dX11_fit_5 (by decide) (fun c5 => ?_) (fun c5 => ?_)
  rotate_left
  · exact absurd (by rw [hK]; exact ⟨nI_pos' (by omega), nI_lt hl (by omega)⟩) c5
  refine zk_aload_n hX dX11_fit_10 rfl ?_
  refine zk_getR hX dX11_fit_11 flX11_76 k_0 z_0 (hw _ _ (by decide) |>.trans r_0_12) ?_
  refine zk_V0vp hX dX11_fit_14 kcX4_beginFit mlX11_442 viX4_beginFit rfl k_114 z_114 (s_X4_beginFit hw) (Nat.le_of_ble_eq_true rfl) rfl (fun w1 q1 => ?_)
  refine zk_iconst (v := 0) hX dX11_fit_17 (by decide) ?_
  refine zk_istore_n (lo' := [_, _, _]) hX dX11_fit_18 (Nat.le_of_ble_eq_true rfl) rfl rfl ?_
  exact loop nc 0 w1 (by omega) (zFr_s q1.1 (by decide)) (fun j _ => by rw [q1.1.2.1 114 (by decide) (by decide)]) q1.2
theorem s_X12_fit_bad {G : zG} {w : zW} {nl : Nat} (hn8 : nl ≤ 8) (hK : w.1 166 53 = nI nl) (l : Int32) (h : ¬ (0 ≤ l ∧ l < nI nl)) : zEi G mX12_fit [.ref 166, .int l] w (-1) w := by
  refine zC_of (lo := [_, _, _, _, _, _]) kcX12_fit (Nat.le_of_ble_eq_true rfl) rfl (fun X hX hE => ?_)
  refine zk_aload_n hX dX12_fit_0 rfl ?_
  refine zk_iload_n hX dX12_fit_1 rfl ?_
  refine zk_V1i hX dX12_fit_2 kcX12_isLooker mlX12_384 viX12_isLooker rfl k_166 z_166 (s_X12_isLooker' (n := nl) (by omega) hK _) (Nat.le_of_ble_eq_true rfl) rfl ?_
  refine zk_if_neB (tgt := 10) hX dX12_fit_5 (by decide) (fun c5 => ?_) (fun c5 => ?_)
  · exact absurd c5 h
  refine zk_iconst (v := -1) hX dX12_fit_8 (by decide) ?_
  refine zk_iret hX hE rfl ⟨rfl, rfl⟩ dX12_fit_9 ⟨_, rfl, ?_⟩
  exact ⟨rfl, rfl⟩
def mmx (H : Nat → Nat) : Nat → Int32
  | 0 => -1
  | n + 1 => nI (H (zmxf H (n + 1)))
theorem mmx_s {H : Nat → Nat} (h24 : ∀ n, H n ≤ 24) (i : Nat) : (¬ nI (H i) ≤ mmx H i → zmxf H (i + 1) = i ∧ mmx H (i + 1) = nI (H i)) ∧ (nI (H i) ≤ mmx H i → zmxf H (i + 1) = zmxf H i ∧ mmx H (i + 1) = mmx H i) := by
  have a1 := h24 i
  cases i with
  | zero =>
    have e : zmxf H 1 = 0 := if_neg (Nat.lt_irrefl _)
    constructor
    · intro _
      exact ⟨e, by show nI (H (zmxf H 1)) = _; rw [e]⟩
    · intro q
      exfalso
      have q : nI (H 0) ≤ -1 := q
      have := nI_pos' (n := H 0) (by omega)
      exact absurd (Int32.le_trans this q) (by decide)
  | succ i =>
    have a2 := h24 (zmxf H (i + 1))
    constructor
    · intro q
      have q := nI_ltD (y := H (zmxf H (i + 1))) q (by omega) (by omega)
      have e : zmxf H (i + 1 + 1) = i + 1 := if_pos q
      exact ⟨e, by show nI (H (zmxf H (i + 1 + 1))) = _; rw [e]⟩
    · intro q
      have q := nI_leD (y := H (zmxf H (i + 1))) q (by omega) (by omega)
      have e : zmxf H (i + 1 + 1) = zmxf H (i + 1) := if_neg (by omega)
      exact ⟨e, by show nI (H (zmxf H (i + 1 + 1))) = nI (H (zmxf H (i + 1))); rw [e]⟩
theorem s_X12_fit {G : zG} {w : zW} {D : zD} {b : zBd} {n nl nc l z u v : Nat} {Zf : Nat → zS} {mo : Nat → Bool} {K : zCd} (hw : zWf w) (hM : mHd w D) (hD : zDok D) (hn : n ≤ 12) (hn8 : nl ≤ 8) (hK : w.1 166 53 = nI nl) (hl : l < nl) (hC : mCs w n nc K) (hPs : mPs w D n Zf mo z u v) (hB : mBs w b) (hL : mLm w z u v) (ho : zlok z u v) :
    zCi G mX12_fit [.ref 166, .int (nI l)] w (fun r w' => r = nI (fc (zmxf (zHt b Zf mo K l nc) 27)) ∧ zFr [179, 180, 181, 182] [] [2, 29, 57] w w' ∧ w'.1 166 2 = nI (zHt b Zf mo K l nc (zmxf (zHt b Zf mo K l nc) 27))) := by
  have h24 := hC.1
  have hH24 : ∀ n, zHt b Zf mo K l nc n ≤ 24 := fun n => Nat.le_trans (zcnt_le _ _) h24
  have ez : ∀ n, zcnt (zag b Zf mo K l (fe n) (fa n) (fd n)) nc = zHt b Zf mo K l nc n := fun _ => rfl
  generalize zHt b Zf mo K l nc = H at *
  refine zC_of (lo := [_, _, _, _, _, _]) kcX12_fit (Nat.le_of_ble_eq_true rfl) rfl (fun X hX hE => ?_)
  have loop : ∀ m i w1 (a5 : Value), i + m = 27 → zFr [179, 180, 181, 182] [] [29, 57] w w1 → zk0 G X mX12_fit 17 [.ref 166, .int (nI l), .int (nI (fc (zmxf H i))), .int (mmx H i), .int (nI i), a5] [] w1 := by
    intro m
    induction m with
    | zero =>
      intro i w1 a5 hi hF
      obtain rfl : i = 27 := by omega
      have hw1 := zFr_wf hF hw
      refine zk_iload hX dX12_fit_17 rfl ?_
      refine zk_bipush (v := 27) hX dX12_fit_19 (by decide) ?_
      refine zk_icmp_ge (tgt := 93) hX dX12_fit_21 (by decide) (fun c21 => ?_) (fun c21 => ?_)
      rotate_left
      · exact absurd (by decide) c21
      refine zk_aload_n hX dX12_fit_93 rfl ?_
      refine zk_iload_n hX dX12_fit_94 rfl ?_
      refine zk_iload_n hX dX12_fit_95 rfl ?_
      refine zk_V2i hX dX12_fit_96 kcX12_tells mlX12_153 viX12_tells rfl k_166 z_166 (s_X12_tells _ _) (Nat.le_of_ble_eq_true rfl) rfl ?_
      refine zk_iret hX hE rfl ⟨rfl, rfl⟩ dX12_fit_99 ⟨_, rfl, ?_⟩
      exact ⟨rfl, zFr_t (zFr_s hF (by decide)) (zFr_m (by decide)), by rw [zsi_1, if_pos ⟨rfl, rfl⟩]; rfl⟩
    | succ m ih =>
      intro i w1 a5 hi hF
      have hw1 := zFr_wf hF hw
      obtain ⟨f1, f2, f3⟩ := f_le (show i < 27 by omega)
      have ca := s_X12_agreesBy (G := G) (l := l) hw1 (mHd_f hM hF (by decide)) hD hn (mCs_f hC hF (by decide)) (mPs_f hPs hF (by decide)) (mBs_f hB hF (by decide)) (mLm_o hL ⟨hF.2.2.2 25 (by decide), hF.2.2.2 26 (by decide), hF.2.2.2 27 (by decide)⟩) ho f1 f2 f3
      rw [ez] at ca
      have h9 := fun w2 a5 => ih (i + 1) w2 a5 (by omega)
      obtain ⟨s1, s2⟩ := mmx_s hH24 i
      by_cases q : nI (H i) ≤ mmx H i
      · obtain ⟨e1, e2⟩ := s2 q
        rw [e1, e2] at h9
        refine zk_iload hX dX12_fit_17 rfl ?_
        refine zk_bipush (v := 27) hX dX12_fit_19 (by decide) ?_
        refine zk_icmp_ge (tgt := 93) hX dX12_fit_21 (by decide) (fun c21 => ?_) (fun c21 => ?_)
        · exact absurd c21 (nI_ge (b := 27) (by omega) (by decide))
        refine zk_aload_n hX dX12_fit_24 rfl ?_
        refine zk_iload_n hX dX12_fit_25 rfl ?_
        refine zk_iload hX dX12_fit_26 rfl ?_
        refine zk_bipush (v := 9) hX dX12_fit_28 (by decide) ?_
        refine zk_idiv hX dX12_fit_30 (by decide) ?_
        rw [show (9 : Int32) = nI 9 from rfl, nI_div (by omega) (by decide)]
        refine zk_iload hX dX12_fit_31 rfl ?_
        refine zk_iconst (v := 3) hX dX12_fit_33 (by decide) ?_
        refine zk_idiv hX dX12_fit_34 (by decide) ?_
        refine zk_iconst (v := 3) hX dX12_fit_35 (by decide) ?_
        refine zk_irem hX dX12_fit_36 (by decide) ?_
        rw [show (3 : Int32) = nI 3 from rfl, nI_div (by omega) (by decide), nI_rem (by omega) (by decide)]
        refine zk_iload hX dX12_fit_37 rfl ?_
        refine zk_iconst (v := 3) hX dX12_fit_39 (by decide) ?_
        refine zk_irem hX dX12_fit_40 (by decide) ?_
        rw [show (3 : Int32) = nI 3 from rfl, nI_rem (by omega) (by decide)]
        refine zk_V4ip hX dX12_fit_41 kcX12_agreesBy mlX12_394 viX12_agreesBy rfl k_166 z_166 ca (Nat.le_of_ble_eq_true rfl) rfl (fun x w2 q2 => ?_)
        obtain ⟨rfl, k1⟩ := q2
        have hw2 := zFr_wf k1 hw1
        refine zk_istore (lo' := [_, _, _, _, _, _]) hX dX12_fit_44 (Nat.le_of_ble_eq_true rfl) rfl rfl ?_
        refine zk_iload hX dX12_fit_46 rfl ?_
        refine zk_iload_n hX dX12_fit_48 rfl ?_
        refine zk_icmp_le (tgt := 78) hX dX12_fit_49 (by decide) (fun c49 => ?_) (fun c49 => ?_)
        rotate_left
        · exact absurd q c49
        refine zk_iload_n hX dX12_fit_78 rfl ?_
        refine zk_istore_n (lo' := [_, _, _, _, _, _]) hX dX12_fit_79 (Nat.le_of_ble_eq_true rfl) rfl rfl ?_
        refine zk_iload_n hX dX12_fit_80 rfl ?_
        refine zk_iload hX dX12_fit_81 rfl ?_
        refine zk_S2i hX dX12_fit_83 kcX12_greater mlX12_287 smX12_greater rfl (s_X12_greater _ _) (Nat.le_of_ble_eq_true rfl) rfl ?_
        refine zk_istore_n (lo' := [_, _, _, _, _, _]) hX dX12_fit_86 (Nat.le_of_ble_eq_true rfl) rfl rfl ?_
        refine zk_iinc (lo' := [_, _, _, _, _, _]) hX dX12_fit_87 rfl (by first | exact zinc _ | exact rfl) (Nat.le_of_ble_eq_true rfl) rfl rfl ?_
        refine zk_goto (tgt := 17) hX dX12_fit_90 (by decide) ?_
        have eg : (if mmx H i ≤ nI (H i) then nI (H i) else mmx H i) = mmx H i := by
          by_cases g : mmx H i ≤ nI (H i)
          · rw [if_pos g]
            exact Int32.le_antisymm q g
          · rw [if_neg g]
        rw [eg]
        exact h9 w2 _ (zFr_t hF k1)
      · obtain ⟨e1, e2⟩ := s1 q
        rw [e1, e2] at h9
        refine zk_iload hX dX12_fit_17 rfl ?_
        refine zk_bipush (v := 27) hX dX12_fit_19 (by decide) ?_
        refine zk_icmp_ge (tgt := 93) hX dX12_fit_21 (by decide) (fun c21 => ?_) (fun c21 => ?_)
        · exact absurd c21 (nI_ge (b := 27) (by omega) (by decide))
        refine zk_aload_n hX dX12_fit_24 rfl ?_
        refine zk_iload_n hX dX12_fit_25 rfl ?_
        refine zk_iload hX dX12_fit_26 rfl ?_
        refine zk_bipush (v := 9) hX dX12_fit_28 (by decide) ?_
        refine zk_idiv hX dX12_fit_30 (by decide) ?_
        rw [show (9 : Int32) = nI 9 from rfl, nI_div (by omega) (by decide)]
        refine zk_iload hX dX12_fit_31 rfl ?_
        refine zk_iconst (v := 3) hX dX12_fit_33 (by decide) ?_
        refine zk_idiv hX dX12_fit_34 (by decide) ?_
        refine zk_iconst (v := 3) hX dX12_fit_35 (by decide) ?_
        refine zk_irem hX dX12_fit_36 (by decide) ?_
        rw [show (3 : Int32) = nI 3 from rfl, nI_div (by omega) (by decide), nI_rem (by omega) (by decide)]
        refine zk_iload hX dX12_fit_37 rfl ?_
        refine zk_iconst (v := 3) hX dX12_fit_39 (by decide) ?_
        refine zk_irem hX dX12_fit_40 (by decide) ?_
        rw [show (3 : Int32) = nI 3 from rfl, nI_rem (by omega) (by decide)]
        refine zk_V4ip hX dX12_fit_41 kcX12_agreesBy mlX12_394 viX12_agreesBy rfl k_166 z_166 ca (Nat.le_of_ble_eq_true rfl) rfl (fun x w2 q2 => ?_)
        obtain ⟨rfl, k1⟩ := q2
        have hw2 := zFr_wf k1 hw1
        refine zk_istore (lo' := [_, _, _, _, _, _]) hX dX12_fit_44 (Nat.le_of_ble_eq_true rfl) rfl rfl ?_
        refine zk_iload hX dX12_fit_46 rfl ?_
        refine zk_iload_n hX dX12_fit_48 rfl ?_
        refine zk_icmp_le (tgt := 78) hX dX12_fit_49 (by decide) (fun c49 => ?_) (fun c49 => ?_)
        · exact absurd c49 q
        refine zk_bipush (v := 100) hX dX12_fit_52 (by decide) ?_
        refine zk_iload hX dX12_fit_54 rfl ?_
        refine zk_bipush (v := 9) hX dX12_fit_56 (by decide) ?_
        refine zk_idiv hX dX12_fit_58 (by decide) ?_
        rw [show (9 : Int32) = nI 9 from rfl, nI_div (by omega) (by decide), show (100 : Int32) = nI 100 from rfl]
        refine zk_imul hX dX12_fit_59 ?_
        rw [nI_mul]
        refine zk_bipush (v := 10) hX dX12_fit_60 (by decide) ?_
        refine zk_iload hX dX12_fit_62 rfl ?_
        refine zk_iconst (v := 3) hX dX12_fit_64 (by decide) ?_
        refine zk_idiv hX dX12_fit_65 (by decide) ?_
        refine zk_iconst (v := 3) hX dX12_fit_66 (by decide) ?_
        refine zk_irem hX dX12_fit_67 (by decide) ?_
        rw [show (3 : Int32) = nI 3 from rfl, nI_div (by omega) (by decide), nI_rem (by omega) (by decide), show (10 : Int32) = nI 10 from rfl]
        refine zk_imul hX dX12_fit_68 ?_
        refine zk_iadd hX dX12_fit_69 ?_
        rw [nI_mul, nI_add]
        refine zk_iload hX dX12_fit_70 rfl ?_
        refine zk_iconst (v := 3) hX dX12_fit_72 (by decide) ?_
        refine zk_irem hX dX12_fit_73 (by decide) ?_
        rw [show (3 : Int32) = nI 3 from rfl, nI_rem (by omega) (by decide)]
        refine zk_iadd hX dX12_fit_74 ?_
        rw [nI_add]
        refine zk_goto (tgt := 79) hX dX12_fit_75 (by decide) ?_
        refine zk_istore_n (lo' := [_, _, _, _, _, _]) hX dX12_fit_79 (Nat.le_of_ble_eq_true rfl) rfl rfl ?_
        refine zk_iload_n hX dX12_fit_80 rfl ?_
        refine zk_iload hX dX12_fit_81 rfl ?_
        refine zk_S2i hX dX12_fit_83 kcX12_greater mlX12_287 smX12_greater rfl (s_X12_greater _ _) (Nat.le_of_ble_eq_true rfl) rfl ?_
        refine zk_istore_n (lo' := [_, _, _, _, _, _]) hX dX12_fit_86 (Nat.le_of_ble_eq_true rfl) rfl rfl ?_
        refine zk_iinc (lo' := [_, _, _, _, _, _]) hX dX12_fit_87 rfl (by first | exact zinc _ | exact rfl) (Nat.le_of_ble_eq_true rfl) rfl rfl ?_
        refine zk_goto (tgt := 17) hX dX12_fit_90 (by decide) ?_
        have eg : (if mmx H i ≤ nI (H i) then nI (H i) else mmx H i) = nI (H i) := if_pos (Int32.le_of_lt (Int32.not_le.mp q))
        rw [eg]
        exact h9 w2 _ (zFr_t hF k1)
  have h0 := fun a5 => loop 27 0 w a5 (by omega) zFr_r
  rw [show fc (zmxf H 0) = 0 by simp [zmxf, fc, fe, fa, fd], show mmx H 0 = -1 from rfl] at h0
  refine zk_aload_n hX dX12_fit_0 rfl ?_
  refine zk_iload_n hX dX12_fit_1 rfl ?_
  refine zk_V1i hX dX12_fit_2 kcX12_isLooker mlX12_384 viX12_isLooker rfl k_166 z_166 (s_X12_isLooker' (n := nl) (by omega) hK _) (Nat.le_of_ble_eq_true rfl) rfl ?_
  refine zk_if_neB (tgt := 10) hX dX12_fit_5 (by decide) (fun c5 => ?_) (fun c5 => ?_)
  rotate_left
  · exact absurd ⟨nI_pos' (by omega), nI_lt hl (by omega)⟩ c5
  refine zk_iconst (v := 0) hX dX12_fit_10 (by decide) ?_
  refine zk_istore_n (lo' := [_, _, _, _, _, _]) hX dX12_fit_11 (Nat.le_of_ble_eq_true rfl) rfl rfl ?_
  refine zk_iconst (v := -1) hX dX12_fit_12 (by decide) ?_
  refine zk_istore_n (lo' := [_, _, _, _, _, _]) hX dX12_fit_13 (Nat.le_of_ble_eq_true rfl) rfl rfl ?_
  refine zk_iconst (v := 0) hX dX12_fit_14 (by decide) ?_
  refine zk_istore (lo' := [_, _, _, _, _, _]) hX dX12_fit_15 (Nat.le_of_ble_eq_true rfl) rfl rfl ?_
  exact h0 _
theorem zO_fit {G : zG} (l : Int32) : zOi G mX11_fit mX12_fit [.int l] := by
  intro w h
  have h0 := h
  obtain ⟨hw, hT, hR, hX, hB, D, z, u, v, T, n, nl, c, hH, hL, hS, hP, hK⟩ := h
  obtain ⟨hD, hH1, hM, hRe⟩ := hH
  have h12 := hP.1
  have h8 := hK.1.1
  by_cases hk0 : 0 ≤ l ∧ l < nI nl
  · obtain ⟨l, hl, rfl⟩ := rn (by omega) hk0
    obtain ⟨b, b1, b2⟩ := qB_b hB
    obtain ⟨Zf, mo, p1, p2⟩ := qP_s hD hP z u v
    obtain ⟨K, c1, c2⟩ := qK_c hK h12
    refine zCi_m (s_X11_fit (G := G) hw h12 h8 hK.1.2.1 hl c1 p1 b1 hL.2.1 hL.1) (fun r w3 g => ?_)
    obtain ⟨rfl, k1, k2, k3, k4⟩ := g
    refine zCi_m (s_X12_fit (G := G) (w := w3) (zFr_wf k1 hw) (mHd_f hM k1 (by decide)) hD h12 h8 (by rw [k1.2.2.2 53 (by decide)]; exact hK.1.2.2.1) hl (mCs_f c2 k1 (by decide)) (mPs_f p2 k1 (by decide)) (mBs_f b2 k1 (by decide)) (mLm_o hL.2.2 ⟨k1.2.2.2 25 (by decide), k1.2.2.2 26 (by decide), k1.2.2.2 27 (by decide)⟩) hL.1) (fun r w4 g => ?_)
    obtain ⟨rfl, k5, k6⟩ := g
    have hF : zFr [1, 114, 127, 128, 129, 130, 179, 180, 181, 182] [163] [2, 29, 57] w w4 := zFr_t (zFr_s k1 (by decide)) (zFr_s k5 (by decide))
    refine ⟨rfl, zQ_look h0 (zFr_wf hF hw) hF (by decide) (fun i hi => by rw [k5.2.1 114 (by decide) (by decide)]; exact k2 i hi) (qT_v hT ?_ ⟨hF.2.2.1 1 (by decide), hF.2.2.1 166 (by decide)⟩ ⟨?_, hF.2.2.2 0 (by decide)⟩ ⟨hF.2.1 2 (by decide) (by decide), hF.2.1 167 (by decide) (by decide)⟩)⟩
    · rw [k5.2.1 1 (by decide) (by decide), k4, k6]
    · rw [k5.2.1 1 (by decide) (by decide), k3 3 (by decide)]
  · exact zOe (s_X11_fit_bad hw l (by rw [hK.1.2.1]; exact hk0)) (s_X12_fit_bad h8 hK.1.2.2.1 l hk0) rfl h0
