/-! never: what no held turns throw -/
theorem zuni_c {P P' : Nat → Bool} {S S' : Nat → zS} {n : Nat} (h : ∀ i, i < n → P i = P' i) (h' : ∀ i, i < n → S i = S' i) : zuni P S n = zuni P' S' n := by
  refine zS_ext (fun c => ?_)
  rw [zuni_m, zuni_m]
  constructor
  · rintro ⟨i, hi, h1, h2⟩
    exact ⟨i, hi, by rw [← h i hi]; exact h1, by rw [← h' i hi]; exact h2⟩
  · rintro ⟨i, hi, h1, h2⟩
    exact ⟨i, hi, by rw [h i hi]; exact h1, by rw [h' i hi]; exact h2⟩
theorem zuni_t {P : Nat → Bool} {S : Nat → zS} {n : Nat} (h : P n = true) : zuni P S (n + 1) = zun (zuni P S n) (S n) := if_pos h
theorem zuni_f {P : Nat → Bool} {S : Nat → zS} {n : Nat} (h : ¬ P n = true) : zuni P S (n + 1) = zuni P S n := if_neg h
def zev (D : zD) (z u v T : Nat) : zS := zuni (mQ D (-1) T) (mS D (-1) z u v) (zpr (zsp D) (dJ D))
/-- what is dark in some held turns -/
def zdv (D : zD) (T : Nat) : zS := zuni (rH D (-1) T) (fun i => zdkL zno (rL D (-1) (dF D) i)) (zN_ D (-1) (dF D))
theorem zdv_thr {D : zD} (hD : zDok D) {z u v T : Nat} : zthr z u v (zdv D T) = zev D z u v T := by
  unfold zdv zev
  rw [zthr_uni, zN_code hD]
  exact zuni_c (fun i hi => rH_code hD hi) (fun i hi => by rw [rL_code hD]; rfl)
theorem s_X11_never {G : zG} {w : zW} {D : zD} {k r z u v T : Nat} {M Y : zS} (hw : zWf w) (hD : zDok D) (hRe : cRe w D) (hN : zpr (zsp D) (dJ D) ≤ 4096) (hT9 : T ≤ 99) (hS : w.1 0 8 = nI T) (hL : zLm w 44 z u v) (ho : zlok z u v) (hk : k < 6) (hr : r < 6) (h : ¬ w.1 (96 + 3 * k) 3 = 0) (hB : cBe w k M Y) :
    zCi G mX11_never [.ref 0, .int (nI k), .int (nI r)] w (fun a w' => a = nI (zcard (zdiff M (zev D z u v T))) ∧ ∃ w1, zFr [] [163, 164, 165] [] w w1 ∧ cRowW w1 r 10 (fun y => nI (zline (zdiff M (zev D z u v T)) y)) w') := by
  have hc := hRe.2.2.2 hN
  have hs : w.1 131 0 = 0 := by rw [hRe.2.2.1, if_neg (by omega)]
  have hC3 : zCe 163 := ⟨by decide, by decide +kernel⟩
  have hC4 : zCe 164 := ⟨by decide, by decide +kernel⟩
  have hC5 : zCe 165 := ⟨by decide, by decide +kernel⟩
  have cj := s_X6_joinDark (G := G) (T := T) hw hD hT9 (o := -1) ⟨hc.1, hc.2, by rw [zN_code hD]; exact hN⟩ hC5
  rw [show zuni (rH D (-1) T) (fun i => zdkL zno (rL D (-1) (dF D) i)) (zN_ D (-1) (dF D)) = zdv D T from rfl] at cj
  rw [← zdv_thr hD]
  generalize zdv D T = E at *
  have hw1 : zWf (zsetS w 165 E) := zWf_of hw rfl
  have ct := s_X3_throwCells (G := G) (w := zsetS w 165 E) (S := E) (Or.inl rfl) hC3 (zLm_o hL rfl) ho
  generalize zthr z u v E = W at *
  have hw2 : zWf (zsetS (zsetS w 165 E) 163 W) := zWf_of hw1 rfl
  have hM2 : zHas (zsetS (zsetS w 165 E) 163 W) (97 + 3 * k) M := zHas_o hB.1 (by rw [zsetS_2 (by omega), zsetS_2 (by omega)])
  have hw3 : zWf (zsetS (zsetS (zsetS w 165 E) 163 W) 164 M) := zWf_of hw2 rfl
  have h33 : zHas (zsetS (zsetS (zsetS w 165 E) 163 W) 164 M) 163 W := zHas_o zsetS_has (zsetS_2 (by decide))
  have hw4 : zWf (zsetS (zsetS (zsetS w 165 E) 163 W) 164 (zdiff M W)) := zWf_of hw2 rfl
  have cl := s_X1_leave (G := G) hC4 hC3 (zsetS_has (w := zsetS (zsetS w 165 E) 163 W) (k := 164) (S := M)) h33
  rw [zsetS_ss] at cl
  refine zC_of (lo := [_, _, _]) kcX11_never (Nat.le_of_ble_eq_true rfl) rfl (fun X hX hE => ?_)
  refine zk_iload_n hX dX11_never_0 rfl ?_
  refine zk_S1i hX dX11_never_1 kcX11_isBeast mlX11_272 smX11_isBeast rfl (s_X11_isBeast _) (Nat.le_of_ble_eq_true rfl) rfl ?_
  refine zk_if_eqB (tgt := 14) hX dX11_never_4 (by decide) (fun c4 => ?_) (fun c4 => ?_)
  · exact absurd c4 (not_not_intro (zrlt hk))
  refine zk_iload_n hX dX11_never_7 rfl ?_
  refine zk_S1i hX dX11_never_8 kcX11_isRow mlX11_107 smX11_isRow rfl (s_X11_isRow _) (Nat.le_of_ble_eq_true rfl) rfl ?_
  refine zk_if_neB (tgt := 16) hX dX11_never_11 (by decide) (fun c11 => ?_) (fun c11 => ?_)
  rotate_left
  · exact absurd (zrlt hr) c11
  refine zk_aload_n hX dX11_never_16 rfl ?_
  refine zk_getR hX dX11_never_17 flX11_68 k_0 z_0 (hw _ _ (by decide) |>.trans r_0_11) ?_
  refine zk_iload_n hX dX11_never_20 rfl ?_
  refine zk_beasts hX hw dX11_never_21 rfl (by first | assumption | omega) ?_
  refine zk_getI hX dX11_never_22 flX11_284 (zBek (by first | assumption | omega)) (zBez _ (by first | assumption | omega)).1 ?_
  refine zk_if_ne (tgt := 37) hX dX11_never_25 (by decide) (fun c25 => ?_) (fun c25 => ?_)
  rotate_left
  · exact absurd c25 h
  refine zk_aload_n hX dX11_never_37 rfl ?_
  refine zk_getR hX dX11_never_38 flX11_83 k_0 z_0 (hw _ _ (by decide) |>.trans r_0_13) ?_
  refine zk_getI hX dX11_never_41 flX11_302 k_131 z_131 ?_
  rw [hs]
  refine zk_if_eq (tgt := 50) hX dX11_never_44 (by decide) (fun c44 => ?_) (fun c44 => ?_)
  rotate_left
  · exact absurd rfl c44
  refine zk_aload_n hX dX11_never_50 rfl ?_
  refine zk_getR hX dX11_never_51 flX11_83 k_0 z_0 (hw _ _ (by decide) |>.trans r_0_13) ?_
  refine zk_aload_n hX dX11_never_54 rfl ?_
  refine zk_getI hX dX11_never_55 flX11_55 k_0 z_0 ?_
  rw [hS]
  refine zk_aload_n hX dX11_never_58 rfl ?_
  refine zk_getR hX dX11_never_59 flX11_104 k_0 z_0 (hw _ _ (by decide) |>.trans r_0_17) ?_
  refine zk_V2v hX dX11_never_62 kcX6_joinDark mlX11_326 viX6_joinDark rfl k_131 z_131 cj (Nat.le_of_ble_eq_true rfl) rfl ?_
  refine zk_aload_n hX dX11_never_65 rfl ?_
  refine zk_getR hX dX11_never_66 flX11_48 k_0 z_0 (hw1 _ _ (by decide) |>.trans r_0_6) ?_
  refine zk_aload_n hX dX11_never_69 rfl ?_
  refine zk_getR hX dX11_never_70 flX11_104 k_0 z_0 (hw1 _ _ (by decide) |>.trans r_0_17) ?_
  refine zk_getL hX dX11_never_73 flX11_288 k_165 z_165 ?_
  rw [show (zsetS w 165 E).2.1 165 0 = zT E from zsetS_has.1]
  refine zk_aload_n hX dX11_never_76 rfl ?_
  refine zk_getR hX dX11_never_77 flX11_104 k_0 z_0 (hw1 _ _ (by decide) |>.trans r_0_17) ?_
  refine zk_getL hX dX11_never_80 flX11_292 k_165 z_165 ?_
  rw [show (zsetS w 165 E).2.1 165 1 = zLo E from zsetS_has.2]
  refine zk_aload_n hX dX11_never_83 rfl ?_
  refine zk_getR hX dX11_never_84 flX11_97 k_0 z_0 (hw1 _ _ (by decide) |>.trans r_0_15) ?_
  refine zk_V3v hX dX11_never_87 kcX3_throwCells mlX11_330 viX3_throwCells rfl k_44 z_44 ct (Nat.le_of_ble_eq_true rfl) rfl ?_
  refine zk_aload_n hX dX11_never_90 rfl ?_
  refine zk_getR hX dX11_never_91 flX11_101 k_0 z_0 (hw2 _ _ (by decide) |>.trans r_0_16) ?_
  refine zk_aload_n hX dX11_never_94 rfl ?_
  refine zk_getR hX dX11_never_95 flX11_68 k_0 z_0 (hw2 _ _ (by decide) |>.trans r_0_11) ?_
  refine zk_iload_n hX dX11_never_98 rfl ?_
  refine zk_beasts hX hw2 dX11_never_99 rfl (by first | assumption | omega) ?_
  refine zk_getR hX dX11_never_100 flX11_275 (zBek (by first | assumption | omega)) (zBez _ (by first | assumption | omega)).1 ((hw2 _ _ (by omega)).trans (zBez _ (by first | assumption | omega)).2.2.2.1) ?_
  refine zk_V1v hX dX11_never_103 kcX1_become mlX11_334 viX1_become rfl k_164 z_164 (s_X1_become hC4 (zBeM hk) hM2) (Nat.le_of_ble_eq_true rfl) rfl ?_
  refine zk_aload_n hX dX11_never_106 rfl ?_
  refine zk_getR hX dX11_never_107 flX11_101 k_0 z_0 (hw3 _ _ (by decide) |>.trans r_0_16) ?_
  refine zk_aload_n hX dX11_never_110 rfl ?_
  refine zk_getR hX dX11_never_111 flX11_97 k_0 z_0 (hw3 _ _ (by decide) |>.trans r_0_15) ?_
  refine zk_V1v hX dX11_never_114 kcX1_leave mlX11_336 viX1_leave rfl k_164 z_164 cl (Nat.le_of_ble_eq_true rfl) rfl ?_
  refine zk_aload_n hX dX11_never_117 rfl ?_
  refine zk_getR hX dX11_never_118 flX11_18 k_0 z_0 (hw4 _ _ (by decide) |>.trans r_0_1) ?_
  refine zk_iload_n hX dX11_never_121 rfl ?_
  refine zk_rows hX hw4 dX11_never_122 rfl (by first | assumption | omega) ?_
  refine zk_aload_n hX dX11_never_123 rfl ?_
  refine zk_getR hX dX11_never_124 flX11_101 k_0 z_0 (hw4 _ _ (by decide) |>.trans r_0_16) ?_
  refine zk_V1vp hX dX11_never_127 kcX8_showCells mlX11_265 viX8_showCells rfl (zRwR0 (by first | assumption | omega)) (zRw_r _ (by first | assumption | omega)).2.1 (s_X8_showCells hw4 hr hC4 zsetS_has) (Nat.le_of_ble_eq_true rfl) rfl (fun w2 q2 => ?_)
  have hw5 := zFr_wf q2.1 hw4
  refine zk_aload_n hX dX11_never_130 rfl ?_
  refine zk_getR hX dX11_never_131 flX11_101 k_0 z_0 (hw5 _ _ (by decide) |>.trans r_0_16) ?_
  refine zk_V0i hX dX11_never_134 kcX1_number mlX11_247 viX1_number rfl k_164 z_164 (s_X1_number hC4 (zHas_o zsetS_has (q2.1.2.2.1 _ (by simp)))) (Nat.le_of_ble_eq_true rfl) rfl ?_
  refine zk_iret hX hE rfl ⟨rfl, rfl⟩ dX11_never_137 ⟨_, rfl, ?_⟩
  exact ⟨rfl, _, zFr_t (zFr_S (by decide)) (zFr_t (zFr_S (by decide)) (zFr_S (by decide))), q2⟩
theorem s_X12_never {G : zG} {w : zW} {D : zD} {k r z u v T : Nat} {M Y : zS} (hw : zWf w) (hM : mHd w D) (hD : zDok D) (hN : zpr (zsp D) (dJ D) ≤ 4096) (hT9 : T ≤ 99) (hS : w.1 166 24 = nI T) (hl : mLm w z u v) (ho : zlok z u v) (hk : k < 6) (hr : r < 6) (h : ¬ w.1 186 k = 0) (hB : mBe w k M Y) :
    zCi G mX12_never [.ref 166, .int (nI k), .int (nI r)] w (fun a w' => a = nI (zcard (zdiff M (zev D z u v T))) ∧ ∃ w1, zFr [179, 180, 181, 182, 190] [] [29] w w1 ∧ mRowW w1 r 10 (fun y => nI (zline (zdiff M (zev D z u v T)) y)) w') := by
  refine zC_of (lo := [_, _, _, _, _, _, _]) kcX12_never (Nat.le_of_ble_eq_true rfl) rfl (fun X hX hE => ?_)
  have loop3 : ∀ m i w1 (a4 : Int32) (a6 : Value), i + m = 10 → zFr [179, 180, 181, 182, 190] [] [29] w w1 → (∀ y, y < 10 → w1.1 190 y = nI (zline (zev D z u v T) y)) → (∀ y, y < i → w1.1 182 y = nI (zline (zdiff M (zev D z u v T)) y)) → zk0 G X mX12_never 112 [.ref 166, .int (nI k), .int (nI r), .int 0, .int a4, .int (nI i), a6] [] w1 := by
    intro m
    induction m with
    | zero =>
      intro i w1 a4 a6 hi hF g1 g2
      obtain rfl : i = 10 := by omega
      have hw1 := zFr_wf hF hw
      refine zk_iload hX dX12_never_112 rfl ?_
      refine zk_bipush (v := 10) hX dX12_never_114 (by decide) ?_
      refine zk_icmp_ge (tgt := 154) hX dX12_never_116 (by decide) (fun c116 => ?_) (fun c116 => ?_)
      rotate_left
      · exact absurd (by decide) c116
      refine zk_aload_n hX dX12_never_154 rfl ?_
      refine zk_iload_n hX dX12_never_155 rfl ?_
      refine zk_V1ip hX dX12_never_156 kcX12_toRow mlX12_308 viX12_toRow rfl k_166 z_166 (s_X12_toRow hw1 hr (S := zdiff M (zev D z u v T)) g2) (Nat.le_of_ble_eq_true rfl) rfl (fun a w2 q2 => ?_)
      refine zk_iret hX hE rfl ⟨rfl, rfl⟩ dX12_never_159 ⟨_, rfl, ?_⟩
      exact ⟨q2.1, w1, hF, q2.2⟩
    | succ m ih =>
      intro i w1 a4 a6 hi hF g1 g2
      have hw1 := zFr_wf hF hw
      have e1 : w1.1 187 (10 * k + i) = nI (zline M i) := by rw [hF.2.1 187 (by decide) (by decide)]; exact (hB i (by omega)).1
      refine zk_iload hX dX12_never_112 rfl ?_
      refine zk_bipush (v := 10) hX dX12_never_114 (by decide) ?_
      refine zk_icmp_ge (tgt := 154) hX dX12_never_116 (by decide) (fun c116 => ?_) (fun c116 => ?_)
      · exact absurd c116 (nI_ge (b := 10) (by omega) (by decide))
      refine zk_aload_n hX dX12_never_119 rfl ?_
      refine zk_getR hX dX12_never_120 flX12_56 k_166 z_166 (hw1 _ _ (by decide) |>.trans r_166_32) ?_
      refine zk_iload hX dX12_never_123 rfl ?_
      refine zk_aload_n hX dX12_never_125 rfl ?_
      refine zk_getR hX dX12_never_126 flX12_72 k_166 z_166 (hw1 _ _ (by decide) |>.trans r_166_38) ?_
      refine zk_bipush (v := 10) hX dX12_never_129 (by decide) ?_
      refine zk_iload_n hX dX12_never_131 rfl ?_
      refine zk_imul hX dX12_never_132 ?_
      refine zk_iload hX dX12_never_133 rfl ?_
      refine zk_iadd hX dX12_never_135 ?_
      refine zk_ialdE hX dX12_never_136 (nI_addE (nI_mulE (nI_k 10 rfl) rfl) rfl) k_187 z_187 (by first | assumption | omega) rfl ?_
      rw [e1]
      refine zk_aload_n hX dX12_never_137 rfl ?_
      refine zk_getR hX dX12_never_138 flX12_81 k_166 z_166 (hw1 _ _ (by decide) |>.trans r_166_42) ?_
      refine zk_iload hX dX12_never_141 rfl ?_
      refine zk_ialdE hX dX12_never_143 rfl k_190 z_190 (by first | assumption | omega) rfl ?_
      rw [g1 i (by omega)]
      refine zk_iconst (v := -1) hX dX12_never_144 (by decide) ?_
      refine zk_ixor hX dX12_never_145 ?_
      refine zk_iand hX dX12_never_146 ?_
      rw [nI_andnot, zline_diff]
      refine zk_iastE hX dX12_never_147 rfl k_182 z_182 (by first | assumption | omega) rfl ?_
      refine zk_iinc (lo' := [_, _, _, _, _, _, _]) hX dX12_never_148 rfl (by first | exact zinc _ | exact rfl) (Nat.le_of_ble_eq_true rfl) rfl rfl ?_
      refine zk_goto (tgt := 112) hX dX12_never_151 (by decide) ?_
      refine ih (i + 1) _ _ _ (by omega) (zFr_t hF (zFr_i (by decide) (by decide))) (fun y hy => by rw [zsi_o (by decide)]; exact g1 y hy) (fun y hy => ?_)
      rw [zsi_1]
      by_cases e5 : y = i
      · rw [if_pos ⟨rfl, e5⟩, e5]
      · rw [if_neg (fun z => e5 z.2)]
        exact g2 y (by omega)
  have loop2 : ∀ c, c < zpr (zsp D) (dJ D) → (∀ w1 (a6 : Value), zFr [179, 180, 181, 182, 190] [] [29] w w1 → (∀ y, y < 10 → w1.1 190 y = nI (zline (zun (zuni (mQ D (-1) T) (mS D (-1) z u v) c) (mS D (-1) z u v c)) y)) → zk0 G X mX12_never 103 [.ref 166, .int (nI k), .int (nI r), .int 0, .int (nI (zpr (zsp D) (dJ D))), .int (nI c), a6] [] w1) →
      ∀ m i w1, i + m = 10 → zFr [179, 180, 181, 182, 190] [] [29] w w1 → zMd w1 (mS D (-1) z u v c) → (∀ y, y < i → w1.1 190 y = nI (zline (zun (zuni (mQ D (-1) T) (mS D (-1) z u v) c) (mS D (-1) z u v c)) y)) → (∀ y, i ≤ y → y < 10 → w1.1 190 y = nI (zline (zuni (mQ D (-1) T) (mS D (-1) z u v) c) y)) → zk0 G X mX12_never 73 [.ref 166, .int (nI k), .int (nI r), .int 0, .int (nI (zpr (zsp D) (dJ D))), .int (nI c), .int (nI i)] [] w1 := by
    intro c hc kk m
    induction m with
    | zero =>
      intro i w1 hi hF hMd g1 g2
      obtain rfl : i = 10 := by omega
      have hw1 := zFr_wf hF hw
      refine zk_iload hX dX12_never_73 rfl ?_
      refine zk_bipush (v := 10) hX dX12_never_75 (by decide) ?_
      refine zk_icmp_ge (tgt := 103) hX dX12_never_77 (by decide) (fun c77 => ?_) (fun c77 => ?_)
      rotate_left
      · exact absurd (by decide) c77
      exact kk w1 _ hF g1
    | succ m ih =>
      intro i w1 hi hF hMd g1 g2
      have hw1 := zFr_wf hF hw
      refine zk_iload hX dX12_never_73 rfl ?_
      refine zk_bipush (v := 10) hX dX12_never_75 (by decide) ?_
      refine zk_icmp_ge (tgt := 103) hX dX12_never_77 (by decide) (fun c77 => ?_) (fun c77 => ?_)
      · exact absurd c77 (nI_ge (b := 10) (by omega) (by decide))
      refine zk_aload_n hX dX12_never_80 rfl ?_
      refine zk_getR hX dX12_never_81 flX12_81 k_166 z_166 (hw1 _ _ (by decide) |>.trans r_166_42) ?_
      refine zk_iload hX dX12_never_84 rfl ?_
      refine zk_dup2 hX dX12_never_86 rfl rfl ?_
      refine zk_ialdE hX dX12_never_87 rfl k_190 z_190 (by first | assumption | omega) rfl ?_
      rw [g2 i (Nat.le_refl _) (by omega)]
      refine zk_aload_n hX dX12_never_88 rfl ?_
      refine zk_getR hX dX12_never_89 flX12_56 k_166 z_166 (hw1 _ _ (by decide) |>.trans r_166_32) ?_
      refine zk_iload hX dX12_never_92 rfl ?_
      refine zk_ialdE hX dX12_never_94 rfl k_182 z_182 (by first | assumption | omega) rfl ?_
      rw [hMd i (by omega)]
      refine zk_ior hX dX12_never_95 ?_
      rw [nI_or, zline_un]
      refine zk_iastE hX dX12_never_96 rfl k_190 z_190 (by first | assumption | omega) rfl ?_
      refine zk_iinc (lo' := [_, _, _, _, _, _, _]) hX dX12_never_97 rfl (by first | exact zinc _ | exact rfl) (Nat.le_of_ble_eq_true rfl) rfl rfl ?_
      refine zk_goto (tgt := 73) hX dX12_never_100 (by decide) ?_
      refine ih (i + 1) _ (by omega) (zFr_t hF (zFr_i (by decide) (by decide))) (zMd_o hMd rfl) (fun y hy => ?_) (fun y hy hy2 => ?_)
      · rw [zsi_1]
        by_cases e5 : y = i
        · rw [if_pos ⟨rfl, e5⟩, e5]
        · rw [if_neg (fun z => e5 z.2)]
          exact g1 y (by omega)
      · rw [zsi_1, if_neg (by omega)]
        exact g2 y (by omega) hy2
  have loop1 : ∀ m i w1 (a6 : Value), i + m = zpr (zsp D) (dJ D) → zFr [179, 180, 181, 182, 190] [] [29] w w1 → (∀ y, y < 10 → w1.1 190 y = nI (zline (zuni (mQ D (-1) T) (mS D (-1) z u v) i) y)) → zk0 G X mX12_never 49 [.ref 166, .int (nI k), .int (nI r), .int 0, .int (nI (zpr (zsp D) (dJ D))), .int (nI i), a6] [] w1 := by
    intro m
    induction m with
    | zero =>
      intro i w1 a6 hi hF g
      obtain rfl : i = zpr (zsp D) (dJ D) := by omega
      have hw1 := zFr_wf hF hw
      refine zk_iload hX dX12_never_49 rfl ?_
      refine zk_iload hX dX12_never_51 rfl ?_
      refine zk_icmp_ge (tgt := 109) hX dX12_never_53 (by decide) (fun c53 => ?_) (fun c53 => ?_)
      rotate_left
      · exact absurd (nI_le (Nat.le_refl _) (by omega)) c53
      refine zk_iconst (v := 0) hX dX12_never_109 (by decide) ?_
      refine zk_istore (lo' := [_, _, _, _, _, _, _]) hX dX12_never_110 (Nat.le_of_ble_eq_true rfl) rfl rfl ?_
      exact loop3 10 0 w1 _ _ (by omega) hF g (fun y hy => absurd hy (by omega))
    | succ m ih =>
      intro i w1 a6 hi hF g
      have hw1 := zFr_wf hF hw
      have hM1 := mHd_f hM hF (by decide)
      have next : ∀ w2 (a6 : Value), zFr [179, 180, 181, 182, 190] [] [29] w w2 → (∀ y, y < 10 → w2.1 190 y = nI (zline (zuni (mQ D (-1) T) (mS D (-1) z u v) (i + 1)) y)) → zk0 G X mX12_never 103 [.ref 166, .int (nI k), .int (nI r), .int 0, .int (nI (zpr (zsp D) (dJ D))), .int (nI i), a6] [] w2 := by
        intro w2 a6 hF2 g2
        refine zk_iinc (lo' := [_, _, _, _, _, _, _]) hX dX12_never_103 rfl (by first | exact zinc _ | exact rfl) (Nat.le_of_ble_eq_true rfl) rfl rfl ?_
        refine zk_goto (tgt := 49) hX dX12_never_106 (by decide) ?_
        exact ih (i + 1) w2 _ (by omega) hF2 g2
      refine zk_iload hX dX12_never_49 rfl ?_
      refine zk_iload hX dX12_never_51 rfl ?_
      refine zk_icmp_ge (tgt := 109) hX dX12_never_53 (by decide) (fun c53 => ?_) (fun c53 => ?_)
      · exact absurd c53 (nI_ge (by omega) (by omega))
      refine zk_aload_n hX dX12_never_56 rfl ?_
      refine zk_iload hX dX12_never_57 rfl ?_
      refine zk_iconst (v := -1) hX dX12_never_59 (by decide) ?_
      refine zk_V2ip hX dX12_never_60 kcX12_isHeld mlX12_332 viX12_isHeld rfl k_166 z_166 (s_X12_isHeld (T := T) hw1 hM1 hD (Or.inl rfl) (by rw [hF.2.2.2 24 (by decide)]; exact hS) hT9 (by omega)) (Nat.le_of_ble_eq_true rfl) rfl (fun x w2 q2 => ?_)
      obtain ⟨rfl, k1, k2, k3⟩ := q2
      have hw2 := zFr_wf k1 hw1
      have hF2 : zFr [179, 180, 181, 182, 190] [] [29] w w2 := zFr_t hF (zFr_s k1 (by decide))
      have g2 : ∀ y, y < 10 → w2.1 190 y = nI (zline (zuni (mQ D (-1) T) (mS D (-1) z u v) i) y) := (fun y hy => by rw [k1.2.1 190 (by decide) (by decide)]; exact g y hy)
      refine zk_if_eqB (tgt := 103) hX dX12_never_63 (by decide) (fun c63 => ?_) (fun c63 => ?_)
      · refine next w2 _ hF2 (fun y hy => ?_)
        rw [zuni_f (fun z => c63 (mQ_t.mp z))]
        exact g2 y hy
      · refine zk_aload_n hX dX12_never_66 rfl ?_
        refine zk_V0vp hX dX12_never_67 kcX12_layThrown mlX12_311 viX12_layThrown rfl k_166 z_166 (s_X12_layThrown hw2 k3 (zP_len hD _ _) (mLm_o hl ⟨hF2.2.2.2 25 (by decide), hF2.2.2.2 26 (by decide), hF2.2.2.2 27 (by decide)⟩) ho) (Nat.le_of_ble_eq_true rfl) rfl (fun w3 q3 => ?_)
        have hF3 : zFr [179, 180, 181, 182, 190] [] [29] w w3 := zFr_t hF2 (zFr_s q3.1 (by decide))
        refine zk_iconst (v := 0) hX dX12_never_70 (by decide) ?_
        refine zk_istore (lo' := [_, _, _, _, _, _, _]) hX dX12_never_71 (Nat.le_of_ble_eq_true rfl) rfl rfl ?_
        have c63' : zkd D (zcode_t D i) (-1) T = 1 := by first | exact c63 | exact Decidable.not_not.mp c63
        refine loop2 i (by omega) (fun w4 a6 hF4 g4 => next w4 a6 hF4 (fun y hy => ?_)) 10 0 w3 (by omega) hF3 q3.2 (fun y hy => absurd hy (by omega)) (fun y _ hy => by rw [q3.1.2.1 190 (by decide) (by decide)]; exact g2 y hy)
        rw [zuni_t (mQ_t.mpr c63')]
        exact g4 y hy
  have loop0 : ∀ m i w1 (a5 a6 : Value), i + m = 10 → zFr [179, 180, 181, 182, 190] [] [29] w w1 → (∀ y, y < i → w1.1 190 y = nI (zline zno y)) → zk0 G X mX12_never 19 [.ref 166, .int (nI k), .int (nI r), .int 0, .int (nI i), a5, a6] [] w1 := by
    intro m
    induction m with
    | zero =>
      intro i w1 a5 a6 hi hF g
      obtain rfl : i = 10 := by omega
      have hw1 := zFr_wf hF hw
      have hM1 := mHd_f hM hF (by decide)
      refine zk_iload hX dX12_never_19 rfl ?_
      refine zk_bipush (v := 10) hX dX12_never_21 (by decide) ?_
      refine zk_icmp_ge (tgt := 40) hX dX12_never_23 (by decide) (fun c23 => ?_) (fun c23 => ?_)
      rotate_left
      · exact absurd (by decide) c23
      refine zk_aload_n hX dX12_never_40 rfl ?_
      refine zk_V0i hX dX12_never_41 kcX12_turnsMany mlX12_329 viX12_turnsMany rfl k_166 z_166 (s_X12_turnsMany hw1 hM1 hD) (Nat.le_of_ble_eq_true rfl) rfl ?_
      refine zk_istore (lo' := [_, _, _, _, _, _, _]) hX dX12_never_44 (Nat.le_of_ble_eq_true rfl) rfl rfl ?_
      refine zk_iconst (v := 0) hX dX12_never_46 (by decide) ?_
      refine zk_istore (lo' := [_, _, _, _, _, _, _]) hX dX12_never_47 (Nat.le_of_ble_eq_true rfl) rfl rfl ?_
      exact loop1 (zpr (zsp D) (dJ D)) 0 w1 _ (by omega) hF g
    | succ m ih =>
      intro i w1 a5 a6 hi hF g
      have hw1 := zFr_wf hF hw
      refine zk_iload hX dX12_never_19 rfl ?_
      refine zk_bipush (v := 10) hX dX12_never_21 (by decide) ?_
      refine zk_icmp_ge (tgt := 40) hX dX12_never_23 (by decide) (fun c23 => ?_) (fun c23 => ?_)
      · exact absurd c23 (nI_ge (b := 10) (by omega) (by decide))
      refine zk_aload_n hX dX12_never_26 rfl ?_
      refine zk_getR hX dX12_never_27 flX12_81 k_166 z_166 (hw1 _ _ (by decide) |>.trans r_166_42) ?_
      refine zk_iload hX dX12_never_30 rfl ?_
      refine zk_iconst (v := 0) hX dX12_never_32 (by decide) ?_
      refine zk_iastE hX dX12_never_33 rfl k_190 z_190 (by first | assumption | omega) rfl ?_
      refine zk_iinc (lo' := [_, _, _, _, _, _, _]) hX dX12_never_34 rfl (by first | exact zinc _ | exact rfl) (Nat.le_of_ble_eq_true rfl) rfl rfl ?_
      refine zk_goto (tgt := 19) hX dX12_never_37 (by decide) ?_
      refine ih (i + 1) _ _ _ (by omega) (zFr_t hF (zFr_i (by decide) (by decide))) (fun y hy => ?_)
      rw [zsi_1]
      by_cases e5 : y = i
      · rw [if_pos ⟨rfl, e5⟩, zline_no]
        rfl
      · rw [if_neg (fun z => e5 z.2)]
        exact g y (by omega)
  refine zk_aload_n hX dX12_never_0 rfl ?_
  refine zk_iload_n hX dX12_never_1 rfl ?_
  refine zk_S1i hX dX12_never_2 kcX12_isRow mlX12_141 smX12_isRow rfl (s_X12_isRow _) (Nat.le_of_ble_eq_true rfl) rfl ?_
  refine zk_iload_n hX dX12_never_5 rfl ?_
  refine zk_V2i hX dX12_never_6 kcX12_needBeast mlX12_338 viX12_needBeast rfl k_166 z_166 (s_X12_needBeast hw hM hD (zrle (n := 5) (by omega)) hk h hN) (Nat.le_of_ble_eq_true rfl) rfl ?_
  refine zk_istore_n (lo' := [_, _, _, _, _, _, _]) hX dX12_never_9 (Nat.le_of_ble_eq_true rfl) rfl rfl ?_
  refine zk_iload_n hX dX12_never_10 rfl ?_
  refine zk_if_ge (tgt := 16) hX dX12_never_11 (by decide) (fun c11 => ?_) (fun c11 => ?_)
  rotate_left
  · exact absurd (by decide) c11
  refine zk_iconst (v := 0) hX dX12_never_16 (by decide) ?_
  refine zk_istore (lo' := [_, _, _, _, _, _, _]) hX dX12_never_17 (Nat.le_of_ble_eq_true rfl) rfl rfl ?_
  exact loop0 10 0 w _ _ (by omega) zFr_r (fun y hy => absurd hy (by omega))
theorem zO_never {G : zG} (k r : Int32) : zOi G mX11_never mX12_never [.int k, .int r] := by
  intro w h
  have h0 := h
  obtain ⟨hw, hT, hR, hX, hB, D, z, u, v, T, n, nl, c, hH, hL, hS, hP, hK⟩ := h
  obtain ⟨hD, hH1, hM, hRe⟩ := hH
  by_cases hk0 : (0 ≤ k ∧ k < 6) ∧ (0 ≤ r ∧ r < 6)
  · obtain ⟨k, hk, rfl⟩ := r6 hk0.1
    obtain ⟨r, hr, rfl⟩ := r6 hk0.2
    obtain ⟨b1, b2, b3, M, Y, b4, b5⟩ := hB k hk
    by_cases hz : w.1 186 k = 0
    · exact zO_find h0 1 (s_X11_never_m hw hk hr (b1.trans hz)) (s_X12_never_m (zfind_w hw) hk hr (by rw [zfind_a (by decide) (by decide)]; exact hz))
    · have hz' : ¬ w.1 (96 + 3 * k) 3 = 0 := by rw [b1]; exact hz
      by_cases hN : 4096 < zpr (zsp D) (dJ D)
      · exact zOe (s_X11_never_s hw hk hr hz' (by rw [hRe.2.2.1, if_pos hN])) (s_X12_never_s hw hM hD hk hr hz hN) rfl h0
      · refine zCi_m (s_X11_never (G := G) (T := T) hw hD hRe (by omega) hS.1 hS.2.1 hL.2.1 hL.1 hk hr hz' b4) (fun a w1 g => ?_)
        obtain ⟨rfl, w0, k0, k1⟩ := g
        have hF1 : zFr kRo [163, 164, 165] [] w w1 := zFr_t (zFr_s k0 (by decide)) (zFr_s (cRowW_fr k1 hr) (by decide))
        refine zCi_m (s_X12_never (G := G) (w := w1) (D := D) (T := T) (k := k) (r := r) (z := z) (u := u) (v := v) (M := M) (Y := Y) (zFr_wf hF1 hw) (mHd_f hM hF1 (by decide)) hD (by omega) hS.1 (by rw [hF1.2.2.2 24 (by decide)]; exact hS.2.2) (mLm_o hL.2.2 ⟨hF1.2.2.2 25 (by decide), hF1.2.2.2 26 (by decide), hF1.2.2.2 27 (by decide)⟩) hL.1 hk hr (by rw [hF1.2.1 186 (by decide) (by decide)]; exact hz) (mBe_o b5 ⟨hF1.2.1 187 (by decide) (by decide), hF1.2.1 188 (by decide) (by decide)⟩)) (fun a w3 g => ?_)
        obtain ⟨rfl, w2, k2, k3⟩ := g
        have hF : zFr (kRo ++ [168, 169, 179, 180, 181, 182, 190]) [163, 164, 165] [29] w w3 := zFr_t (zFr_s hF1 (by decide)) (zFr_t (zFr_s k2 (by decide)) (zFr_s k3.1 (by decide)))
        exact ⟨rfl, zQ_R h0 (zFr_wf hF hw) hF.2 (by decide) (qT_f hT hF.2 (by decide)) (qR_sh hR hr (by omega) k0.2 (by decide) k1 k2.2 (by decide) k3)⟩
  · exact zOe (s_X11_never_bad k r hk0) (s_X12_never_bad k r hk0) rfl h0
