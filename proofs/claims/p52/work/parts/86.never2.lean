theorem zuni_c {P P' : Nat → Bool} {S S' : Nat → zS} {n : Nat} (h : ∀ i, i < n → P i = P' i) (h' : ∀ i, i < n → S i = S' i) : zuni P S n = zuni P' S' n := by
  refine zS_ext (fun c => ?_)
  rw [zuni_m, zuni_m]
  constructor
  · rintro ⟨i, hi, h1, h2⟩
    exact ⟨i, hi, by rw [← h i hi]; exact h1, by rw [← h' i hi]; exact h2⟩
  · rintro ⟨i, hi, h1, h2⟩
    exact ⟨i, hi, by rw [h i hi]; exact h1, by rw [h' i hi]; exact h2⟩
def zev (D : zD) (z u v T : Nat) : zS := zuni (mQ D (-1) T) (mS D (-1) z u v) (zpr (zsp D) (dJ D))
/-- what is dark in some held turns -/
def zdv (D : zD) (T : Nat) : zS := zuni (rH D (-1) T) (fun i => zdkL zno (rL D (-1) (dF D) i)) (zN_ D (-1) (dF D))
theorem zdv_thr {D : zD} (hD : zDok D) {z u v T : Nat} : zthr z u v (zdv D T) = zev D z u v T := by
  unfold zdv zev
  rw [zthr_uni, zN_code hD]
  exact zuni_c (fun i hi => rH_code hD hi) (fun i hi => by rw [rL_code hD]; rfl)
theorem s_X11_never {G : zG} {w : zW} {D : zD} {k r z u v T : Nat} {M Y : zS} (hw : zWf w) (hD : zDok D) (hRe : cRe w D) (hN : zpr (zsp D) (dJ D) ≤ 4096) (hT9 : T ≤ 99) (hS : w.1 0 8 = nI T) (hL : zLm w 44 z u v) (ho : zlok z u v) (hk : k < 6) (hr : r < 6) (h : ¬ w.1 (96 + 3 * k) 3 = 0) (hB : cBe w k M Y) :
    zCi G mX11_never [.ref 0, .int (nI k), .int (nI r)] w (fun a w' => a = nI (zcard (zdiff M (zev D z u v T))) ∧ ∃ w1, zFr [] [163, 164, 165] [] w w1 ∧ cRowW w1 r 10 (fun y => nI (zline (zdiff M (zev D z u v T)) y)) w') := by
  have hc := hRe.2.2.2 hN
  have hs : w.1 131 0 = 0 := by rw [hRe.2.2.1, if_neg (by omega)]
  have hC3 : zCe 163 := ⟨by decide, by decide +kernel⟩
  have hC4 : zCe 164 := ⟨by decide, by decide +kernel⟩
  have hC5 : zCe 165 := ⟨by decide, by decide +kernel⟩
  have cj := s_X6_joinDark (G := G) (T := T) hw hD hT9 (o := -1) ⟨hc.1, hc.2, by rw [zN_code hD]; exact hN⟩ hC5
  rw [show zuni (rH D (-1) T) (fun i => zdkL zno (rL D (-1) (dF D) i)) (zN_ D (-1) (dF D)) = zdv D T from rfl] at cj
  rw [← zdv_thr hD]
  generalize zdv D T = E at *
  have hw1 : zWf (zsetS w 165 E) := zWf_of hw rfl
  have ct := s_X3_throwCells (G := G) (w := zsetS w 165 E) (S := E) (Or.inl rfl) hC3 (zLm_o hL rfl) ho
  generalize zthr z u v E = W at *
  have hw2 : zWf (zsetS (zsetS w 165 E) 163 W) := zWf_of hw1 rfl
  have hM2 : zHas (zsetS (zsetS w 165 E) 163 W) (97 + 3 * k) M := zHas_o hB.1 (by rw [zsetS_2 (by omega), zsetS_2 (by omega)])
  have hw3 : zWf (zsetS (zsetS (zsetS w 165 E) 163 W) 164 M) := zWf_of hw2 rfl
  have h33 : zHas (zsetS (zsetS (zsetS w 165 E) 163 W) 164 M) 163 W := zHas_o zsetS_has (zsetS_2 (by decide))
  have hw4 : zWf (zsetS (zsetS (zsetS w 165 E) 163 W) 164 (zdiff M W)) := zWf_of hw2 rfl
  have cl := s_X1_leave (G := G) hC4 hC3 (zsetS_has (w := zsetS (zsetS w 165 E) 163 W) (k := 164) (S := M)) h33
  rw [zsetS_ss] at cl
  refine zC_of (lo := [_, _, _]) kcX11_never (Nat.le_of_ble_eq_true rfl) rfl (fun X hX hE => ?_)
  refine zk_iload_n hX dX11_never_0 rfl ?_
  refine zk_S1i hX dX11_never_1 kcX11_isBeast mlX11_272 smX11_isBeast rfl (s_X11_isBeast _) (Nat.le_of_ble_eq_true rfl) rfl ?_
  refine zk_if_eqB (tgt := 14) hX dX11_never_4 (by decide) (fun c4 => ?_) (fun c4 => ?_)
  · exact absurd c4 (not_not_intro (zrlt hk))
  refine zk_iload_n hX dX11_never_7 rfl ?_
  refine zk_S1i hX dX11_never_8 kcX11_isRow mlX11_107 smX11_isRow rfl (s_X11_isRow _) (Nat.le_of_ble_eq_true rfl) rfl ?_
  refine zk_if_neB (tgt := 16) hX dX11_never_11 (by decide) (fun c11 => ?_) (fun c11 => ?_)
  rotate_left
  · exact absurd (zrlt hr) c11
  refine zk_aload_n hX dX11_never_16 rfl ?_
  refine zk_getR hX dX11_never_17 flX11_68 k_0 z_0 (hw _ _ (by decide) |>.trans r_0_11) ?_
  refine zk_iload_n hX dX11_never_20 rfl ?_
  refine zk_beasts hX hw dX11_never_21 rfl (by first | assumption | omega) ?_
  refine zk_getI hX dX11_never_22 flX11_284 (zBek (by first | assumption | omega)) (zBez _ (by first | assumption | omega)).1 ?_
  refine zk_if_ne (tgt := 37) hX dX11_never_25 (by decide) (fun c25 => ?_) (fun c25 => ?_)
  rotate_left
  · exact absurd c25 h
  refine zk_aload_n hX dX11_never_37 rfl ?_
  refine zk_getR hX dX11_never_38 flX11_83 k_0 z_0 (hw _ _ (by decide) |>.trans r_0_13) ?_
  refine zk_getI hX dX11_never_41 flX11_302 k_131 z_131 ?_
  rw [hs]
  refine zk_if_eq (tgt := 50) hX dX11_never_44 (by decide) (fun c44 => ?_) (fun c44 => ?_)
  rotate_left
  · exact absurd rfl c44
  refine zk_aload_n hX dX11_never_50 rfl ?_
  refine zk_getR hX dX11_never_51 flX11_83 k_0 z_0 (hw _ _ (by decide) |>.trans r_0_13) ?_
  refine zk_aload_n hX dX11_never_54 rfl ?_
  refine zk_getI hX dX11_never_55 flX11_55 k_0 z_0 ?_
  rw [hS]
  refine zk_aload_n hX dX11_never_58 rfl ?_
  refine zk_getR hX dX11_never_59 flX11_104 k_0 z_0 (hw _ _ (by decide) |>.trans r_0_17) ?_
  refine zk_V2v hX dX11_never_62 kcX6_joinDark mlX11_326 viX6_joinDark rfl k_131 z_131 cj (Nat.le_of_ble_eq_true rfl) rfl ?_
  refine zk_aload_n hX dX11_never_65 rfl ?_
  refine zk_getR hX dX11_never_66 flX11_48 k_0 z_0 (hw1 _ _ (by decide) |>.trans r_0_6) ?_
  refine zk_aload_n hX dX11_never_69 rfl ?_
  refine zk_getR hX dX11_never_70 flX11_104 k_0 z_0 (hw1 _ _ (by decide) |>.trans r_0_17) ?_
  refine zk_getL hX dX11_never_73 flX11_288 k_165 z_165 ?_
  rw [show (zsetS w 165 E).2.1 165 0 = zT E from zsetS_has.1]
  refine zk_aload_n hX dX11_never_76 rfl ?_
  refine zk_getR hX dX11_never_77 flX11_104 k_0 z_0 (hw1 _ _ (by decide) |>.trans r_0_17) ?_
  refine zk_getL hX dX11_never_80 flX11_292 k_165 z_165 ?_
  rw [show (zsetS w 165 E).2.1 165 1 = zLo E from zsetS_has.2]
  refine zk_aload_n hX dX11_never_83 rfl ?_
  refine zk_getR hX dX11_never_84 flX11_97 k_0 z_0 (hw1 _ _ (by decide) |>.trans r_0_15) ?_
  refine zk_V3v hX dX11_never_87 kcX3_throwCells mlX11_330 viX3_throwCells rfl k_44 z_44 ct (Nat.le_of_ble_eq_true rfl) rfl ?_
  refine zk_aload_n hX dX11_never_90 rfl ?_
  refine zk_getR hX dX11_never_91 flX11_101 k_0 z_0 (hw2 _ _ (by decide) |>.trans r_0_16) ?_
  refine zk_aload_n hX dX11_never_94 rfl ?_
  refine zk_getR hX dX11_never_95 flX11_68 k_0 z_0 (hw2 _ _ (by decide) |>.trans r_0_11) ?_
  refine zk_iload_n hX dX11_never_98 rfl ?_
  refine zk_beasts hX hw2 dX11_never_99 rfl (by first | assumption | omega) ?_
  refine zk_getR hX dX11_never_100 flX11_275 (zBek (by first | assumption | omega)) (zBez _ (by first | assumption | omega)).1 ((hw2 _ _ (by omega)).trans (zBez _ (by first | assumption | omega)).2.2.2.1) ?_
  refine zk_V1v hX dX11_never_103 kcX1_become mlX11_334 viX1_become rfl k_164 z_164 (s_X1_become hC4 (zBeM hk) hM2) (Nat.le_of_ble_eq_true rfl) rfl ?_
  refine zk_aload_n hX dX11_never_106 rfl ?_
  refine zk_getR hX dX11_never_107 flX11_101 k_0 z_0 (hw3 _ _ (by decide) |>.trans r_0_16) ?_
  refine zk_aload_n hX dX11_never_110 rfl ?_
  refine zk_getR hX dX11_never_111 flX11_97 k_0 z_0 (hw3 _ _ (by decide) |>.trans r_0_15) ?_
  refine zk_V1v hX dX11_never_114 kcX1_leave mlX11_336 viX1_leave rfl k_164 z_164 cl (Nat.le_of_ble_eq_true rfl) rfl ?_
  refine zk_aload_n hX dX11_never_117 rfl ?_
  refine zk_getR hX dX11_never_118 flX11_18 k_0 z_0 (hw4 _ _ (by decide) |>.trans r_0_1) ?_
  refine zk_iload_n hX dX11_never_121 rfl ?_
  refine zk_rows hX hw4 dX11_never_122 rfl (by first | assumption | omega) ?_
  refine zk_aload_n hX dX11_never_123 rfl ?_
  refine zk_getR hX dX11_never_124 flX11_101 k_0 z_0 (hw4 _ _ (by decide) |>.trans r_0_16) ?_
  refine zk_V1vp hX dX11_never_127 kcX8_showCells mlX11_265 viX8_showCells rfl (zRwR0 (by first | assumption | omega)) (zRw_r _ (by first | assumption | omega)).2.1 (s_X8_showCells hw4 hr hC4 zsetS_has) (Nat.le_of_ble_eq_true rfl) rfl (fun w2 q2 => ?_)
  have hw5 := zFr_wf q2.1 hw4
  refine zk_aload_n hX dX11_never_130 rfl ?_
  refine zk_getR hX dX11_never_131 flX11_101 k_0 z_0 (hw5 _ _ (by decide) |>.trans r_0_16) ?_
  refine zk_V0i hX dX11_never_134 kcX1_number mlX11_247 viX1_number rfl k_164 z_164 (s_X1_number hC4 (zHas_o zsetS_has (q2.1.2.2.1 _ (by simp)))) (Nat.le_of_ble_eq_true rfl) rfl ?_
  refine zk_iret hX hE rfl ⟨rfl, rfl⟩ dX11_never_137 ⟨_, rfl, ?_⟩
  exact ⟨rfl, _, zFr_t (zFr_S (by decide)) (zFr_t (zFr_S (by decide)) (zFr_S (by decide))), q2⟩
