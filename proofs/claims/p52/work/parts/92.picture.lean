theorem zsub {S T : zS} : (zT (zdiff T S) = 0 ∧ zLo (zdiff T S) = 0) ↔ ∀ c, c < 120 → T c = true → S c = true := by
  have e0 : (zT (zdiff T S) = 0 ∧ zLo (zdiff T S) = 0) ↔ (zT (zdiff T S) = zT zno ∧ zLo (zdiff T S) = zLo zno) := by rw [zT_no, zLo_no]
  rw [e0, zTL_eq]
  constructor
  · intro h c hc q
    have h := h c hc
    unfold zdiff zno at h
    rw [q] at h
    cases e : S c with
    | true => rfl
    | false => rw [e] at h; cases h
  · intro h c hc
    unfold zdiff zno
    cases e : T c with
    | false => rfl
    | true => rw [h c hc e]; rfl
theorem zthr_mono {z u v : Nat} {S T : zS} (h : ∀ a, a < 120 → S a = true → T a = true) {c : Nat} (q : zthr z u v S c = true) : zthr z u v T c = true := by
  obtain ⟨a, ha, h1, h2⟩ := zthr_m.mp q
  exact zthr_m.mpr ⟨a, ha, h a ha h1, h2⟩
theorem zLf_w {D : zD} {t : Nat → Int32} {o : Int32} {p : zPt} (h : p ∈ zLw D o (dW D)) : ∀ n, p ∈ zLf D t o n
  | 0 => h
  | n + 1 => by
    unfold zLf
    exact List.mem_append_left _ (zLf_w h n)
theorem zdkL_w {D : zD} {i : Nat} {a : Nat} (h : zdkL zno (zLw D (-1) (dW D)) a = true) : zdkL zno (rL D (-1) (dF D) i) a = true := by
  rcases (zdkL_m a _ zno).mp h with q | ⟨p, h1, h2, h3⟩
  · cases q
  · exact (zdkL_m a _ zno).mpr (Or.inr ⟨p, zLf_w h1 _, h2, h3⟩)
theorem rJ_s {D : zD} {z u v T i : Nat} {W : zS} (h : rJ D (-1) z u v T W i = true) : rH D (-1) T i = true ∧ ∀ c, c < 120 → W c = zthr z u v (zdkL zno (rL D (-1) (dF D) i)) c := by
  unfold rJ at h
  rw [Bool.and_eq_true, decide_eq_true_eq] at h
  exact ⟨h.1, zTL_eq.mp h.2⟩
theorem rJ_no1 {D : zD} {z u v T n : Nat} {W : zS} (h : ¬ ∀ c, c < 120 → zthr z u v (zdkL zno (zLw D (-1) (dW D))) c = true → W c = true) : zcnt (rJ D (-1) z u v T W) n = 0 :=
  zcnt_0.mpr (fun i _ pi => h (fun c hc q => by
    rw [(rJ_s pi).2 c hc]
    exact zthr_mono (fun a _ qa => zdkL_w qa) q))
theorem rJ_no2 {D : zD} {z u v T : Nat} {W : zS} (h : ¬ ∀ c, c < 120 → W c = true → zthr z u v (zdv D T) c = true) : zcnt (rJ D (-1) z u v T W) (zN_ D (-1) (dF D)) = 0 :=
  zcnt_0.mpr (fun i hi pi => h (fun c hc q => by
    rw [(rJ_s pi).2 c hc] at q
    exact zthr_mono (S := zdkL zno (rL D (-1) (dF D) i)) (T := zdv D T) (fun a _ qa => by unfold zdv; exact zuni_m.mpr ⟨i, hi, (rJ_s pi).1, qa⟩) q))
theorem s_X11_numberThrowingBy {G : zG} {w : zW} {D : zD} {z u v T : Nat} {W : zS} (hw : zWf w) (hD : zDok D) (hH : cHd w 26 D) (hRe : cRe w D) (hN : zpr (zsp D) (dJ D) ≤ 4096) (hT9 : T ≤ 99) (hS : w.1 0 8 = nI T) (hL : zLm w 45 z u v) (ho : zlok z u v) (hW : zHas w 164 W) (hE : zHas w 165 (zdv D T)) :
    zCi G mX11_numberThrowingBy [.ref 0, .ref 45] w (fun a w' => a = nI (zcnt (rJ D (-1) z u v T W) (zN_ D (-1) (dF D))) ∧ zFr [] [137, 138, 143, 144, 146, 163] [] w w') := by
  have hc := hRe.2.2.2 hN
  have hT : cTab w D (-1) := ⟨hc.1, hc.2, by rw [zN_code hD]; exact hN⟩
  have hC3 : zCe 163 := ⟨by decide, by decide +kernel⟩
  have hC4 : zCe 164 := ⟨by decide, by decide +kernel⟩
  have n1 := rJ_no1 (D := D) (z := z) (u := u) (v := v) (T := T) (W := W) (n := zN_ D (-1) (dF D))
  have n2 := rJ_no2 (D := D) (z := z) (u := u) (v := v) (T := T) (W := W)
  have cw := s_X2_wristCells (G := G) hw hH hD hC3 (-1)
  generalize zdkL zno (zLw D (-1) (dW D)) = R at *
  generalize zdv D T = E at *
  have hw1 : zWf (zsetS w 163 R) := zWf_of hw rfl
  have ct := s_X3_throwCells (G := G) (w := zsetS w 163 R) (S := R) (k := 163) (Or.inr rfl) hC3 (zLm_o hL rfl) ho
  rw [zsetS_ss] at ct
  have hw2 : zWf (zsetS w 163 (zthr z u v R)) := zWf_of hw rfl
  have ct2 := s_X3_throwCells (G := G) (w := zsetS w 163 (zthr z u v R)) (S := E) (k := 163) (Or.inr rfl) hC3 (zLm_o hL rfl) ho
  rw [zsetS_ss] at ct2
  have hw3 : zWf (zsetS w 163 (zthr z u v E)) := zWf_of hw rfl
  have g2 : zHas (zsetS w 163 (zthr z u v R)) 164 W := zHas_o hW (zsetS_2 (by decide))
  have g3 : zHas (zsetS w 163 (zthr z u v E)) 164 W := zHas_o hW (zsetS_2 (by decide))
  have e2 : zHas (zsetS w 163 (zthr z u v R)) 165 E := zHas_o hE (zsetS_2 (by decide))
  have hF3 : zFr [] [137, 138, 143, 144, 146, 163] [] w (zsetS w 163 (zthr z u v E)) := zFr_S (by decide)
  refine zC_of (lo := [_, _]) kcX11_numberThrowingBy (Nat.le_of_ble_eq_true rfl) rfl (fun X hX hE => ?_)
  refine zk_aload_n hX dX11_numberThrowingBy_0 rfl ?_
  refine zk_getR hX dX11_numberThrowingBy_1 flX11_38 k_0 z_0 (hw _ _ (by decide) |>.trans r_0_4) ?_
  refine zk_iconst (v := -1) hX dX11_numberThrowingBy_4 (by decide) ?_
  refine zk_aload_n hX dX11_numberThrowingBy_5 rfl ?_
  refine zk_getR hX dX11_numberThrowingBy_6 flX11_97 k_0 z_0 (hw _ _ (by decide) |>.trans r_0_15) ?_
  refine zk_V2i hX dX11_numberThrowingBy_9 kcX2_wristCells mlX11_519 viX2_wristCells rfl k_26 z_26 cw (Nat.le_of_ble_eq_true rfl) rfl ?_
  refine zk_pop hX dX11_numberThrowingBy_12 rfl ?_
  refine zk_aload_n hX dX11_numberThrowingBy_13 rfl ?_
  refine zk_aload_n hX dX11_numberThrowingBy_14 rfl ?_
  refine zk_getR hX dX11_numberThrowingBy_15 flX11_97 k_0 z_0 (hw1 _ _ (by decide) |>.trans r_0_15) ?_
  refine zk_getL hX dX11_numberThrowingBy_18 flX11_288 k_163 z_163 ?_
  rw [show (zsetS w 163 R).2.1 163 0 = zT R from zsetS_has.1]
  refine zk_aload_n hX dX11_numberThrowingBy_21 rfl ?_
  refine zk_getR hX dX11_numberThrowingBy_22 flX11_97 k_0 z_0 (hw1 _ _ (by decide) |>.trans r_0_15) ?_
  refine zk_getL hX dX11_numberThrowingBy_25 flX11_292 k_163 z_163 ?_
  rw [show (zsetS w 163 R).2.1 163 1 = zLo R from zsetS_has.2]
  refine zk_aload_n hX dX11_numberThrowingBy_28 rfl ?_
  refine zk_getR hX dX11_numberThrowingBy_29 flX11_97 k_0 z_0 (hw1 _ _ (by decide) |>.trans r_0_15) ?_
  refine zk_V3v hX dX11_numberThrowingBy_32 kcX3_throwCells mlX11_330 viX3_throwCells rfl k_45 z_45 ct (Nat.le_of_ble_eq_true rfl) rfl ?_
  refine zk_aload_n hX dX11_numberThrowingBy_35 rfl ?_
  refine zk_getR hX dX11_numberThrowingBy_36 flX11_101 k_0 z_0 (hw2 _ _ (by decide) |>.trans r_0_16) ?_
  refine zk_aload_n hX dX11_numberThrowingBy_39 rfl ?_
  refine zk_getR hX dX11_numberThrowingBy_40 flX11_97 k_0 z_0 (hw2 _ _ (by decide) |>.trans r_0_15) ?_
  refine zk_V1i hX dX11_numberThrowingBy_43 kcX1_has mlX11_523 viX1_has rfl k_164 z_164 (s_X1_has hC4 hC3 g2 zsetS_has) (Nat.le_of_ble_eq_true rfl) rfl ?_
  refine zk_if_neB (tgt := 51) hX dX11_numberThrowingBy_46 (by decide) (fun c46 => ?_) (fun c46 => ?_)
  · refine zk_aload_n hX dX11_numberThrowingBy_51 rfl ?_
    refine zk_aload_n hX dX11_numberThrowingBy_52 rfl ?_
    refine zk_getR hX dX11_numberThrowingBy_53 flX11_104 k_0 z_0 (hw2 _ _ (by decide) |>.trans r_0_17) ?_
    refine zk_getL hX dX11_numberThrowingBy_56 flX11_288 k_165 z_165 ?_
    rw [e2.1]
    refine zk_aload_n hX dX11_numberThrowingBy_59 rfl ?_
    refine zk_getR hX dX11_numberThrowingBy_60 flX11_104 k_0 z_0 (hw2 _ _ (by decide) |>.trans r_0_17) ?_
    refine zk_getL hX dX11_numberThrowingBy_63 flX11_292 k_165 z_165 ?_
    rw [e2.2]
    refine zk_aload_n hX dX11_numberThrowingBy_66 rfl ?_
    refine zk_getR hX dX11_numberThrowingBy_67 flX11_97 k_0 z_0 (hw2 _ _ (by decide) |>.trans r_0_15) ?_
    refine zk_V3v hX dX11_numberThrowingBy_70 kcX3_throwCells mlX11_330 viX3_throwCells rfl k_45 z_45 ct2 (Nat.le_of_ble_eq_true rfl) rfl ?_
    refine zk_aload_n hX dX11_numberThrowingBy_73 rfl ?_
    refine zk_getR hX dX11_numberThrowingBy_74 flX11_97 k_0 z_0 (hw3 _ _ (by decide) |>.trans r_0_15) ?_
    refine zk_aload_n hX dX11_numberThrowingBy_77 rfl ?_
    refine zk_getR hX dX11_numberThrowingBy_78 flX11_101 k_0 z_0 (hw3 _ _ (by decide) |>.trans r_0_16) ?_
    refine zk_V1i hX dX11_numberThrowingBy_81 kcX1_has mlX11_523 viX1_has rfl k_163 z_163 (s_X1_has hC3 hC4 zsetS_has g3) (Nat.le_of_ble_eq_true rfl) rfl ?_
    refine zk_if_neB (tgt := 89) hX dX11_numberThrowingBy_84 (by decide) (fun c84 => ?_) (fun c84 => ?_)
    · refine zk_aload_n hX dX11_numberThrowingBy_89 rfl ?_
      refine zk_getR hX dX11_numberThrowingBy_90 flX11_83 k_0 z_0 (hw3 _ _ (by decide) |>.trans r_0_13) ?_
      refine zk_aload_n hX dX11_numberThrowingBy_93 rfl ?_
      refine zk_getR hX dX11_numberThrowingBy_94 flX11_38 k_0 z_0 (hw3 _ _ (by decide) |>.trans r_0_4) ?_
      refine zk_aload_n hX dX11_numberThrowingBy_97 rfl ?_
      refine zk_iconst (v := -1) hX dX11_numberThrowingBy_98 (by decide) ?_
      refine zk_V3vp hX dX11_numberThrowingBy_99 kcX6_shade mlX11_311 viX6_shade rfl k_131 z_131 (s_X6_shade hw3 (cHd_o hH (fun a _ _ => congrFun zsetS_1 a)) hD (cRe_f hRe hF3.2 (by decide)).2.1 hN (Or.inr rfl) (zLm_o hL rfl) ho (-1)) (Nat.le_of_ble_eq_true rfl) rfl (fun w4 q4 => ?_)
      have hw4 := zFr_wf q4.1 hw3
      have hF4 : zFr [] [137, 138, 143, 144, 146, 163] [] w w4 := zFr_t hF3 (zFr_s q4.1 (by decide))
      have e8 : w4.1 0 8 = nI T := (by rw [hF4.2.1 0 (by decide) (by decide)]; exact hS)
      have g4 : zHas w4 164 W := zHas_o hW (hF4.2.2.1 164 (by decide))
      refine zk_aload_n hX dX11_numberThrowingBy_102 rfl ?_
      refine zk_getR hX dX11_numberThrowingBy_103 flX11_83 k_0 z_0 (hw4 _ _ (by decide) |>.trans r_0_13) ?_
      refine zk_aload_n hX dX11_numberThrowingBy_106 rfl ?_
      refine zk_getR hX dX11_numberThrowingBy_107 flX11_101 k_0 z_0 (hw4 _ _ (by decide) |>.trans r_0_16) ?_
      refine zk_aload_n hX dX11_numberThrowingBy_110 rfl ?_
      refine zk_getI hX dX11_numberThrowingBy_111 flX11_55 k_0 z_0 ?_
      rw [e8]
      refine zk_V2i hX dX11_numberThrowingBy_114 kcX6_numberThrowing mlX11_343 viX6_numberThrowing rfl k_131 z_131 (s_X6_numberThrowing hw4 hD hT9 (cTab_f hT hF4 (by decide)) q4.2 hC4 g4) (Nat.le_of_ble_eq_true rfl) rfl ?_
      refine zk_iret hX hE rfl ⟨rfl, rfl⟩ dX11_numberThrowingBy_117 ⟨_, rfl, ?_⟩
      exact ⟨rfl, hF4⟩
    · refine zk_iconst (v := 0) hX dX11_numberThrowingBy_87 (by decide) ?_
      refine zk_iret hX hE rfl ⟨rfl, rfl⟩ dX11_numberThrowingBy_88 ⟨_, rfl, ?_⟩
      exact ⟨by rw [n2 (fun q => c84 (zsub.mpr q))]; rfl, zFr_S (by decide)⟩
  · refine zk_iconst (v := 0) hX dX11_numberThrowingBy_49 (by decide) ?_
    refine zk_iret hX hE rfl ⟨rfl, rfl⟩ dX11_numberThrowingBy_50 ⟨_, rfl, ?_⟩
    exact ⟨by rw [n1 (fun q => c46 (zsub.mpr q))]; rfl, zFr_S (by decide)⟩
/-- the first lamp by which there are some -/
def zPic (g : Nat → Nat) (a b e : Int32) : Prop := (∃ n, n < 98 ∧ (∀ j, j < n → g j = 0) ∧ 0 < g n ∧ a = nI (lc (lz n) (lu n) (lv n)) ∧ b = nI (g n)) ∨ ((∀ j, j < 98 → g j = 0) ∧ a = -9 ∧ b = e)
theorem s_X11_picture_bad {G : zG} {w : zW} (r : Int32) (h : ¬ (0 ≤ r ∧ r < 6)) : zEi G mX11_picture [.ref 0, .int r] w (-1) w := by
  refine zC_of (lo := [_, _, _, _, _]) kcX11_picture (Nat.le_of_ble_eq_true rfl) rfl (fun X hX hE => ?_)
  refine zk_iload_n hX dX11_picture_0 rfl ?_
  refine zk_S1i hX dX11_picture_1 kcX11_isRow mlX11_107 smX11_isRow rfl (s_X11_isRow _) (Nat.le_of_ble_eq_true rfl) rfl ?_
  refine zk_if_neB (tgt := 9) hX dX11_picture_4 (by decide) (fun c4 => ?_) (fun c4 => ?_)
  · exact absurd c4 h
  refine zk_iconst (v := -1) hX dX11_picture_7 (by decide) ?_
  refine zk_iret hX hE rfl ⟨rfl, rfl⟩ dX11_picture_8 ⟨_, rfl, ?_⟩
  exact ⟨rfl, rfl⟩
theorem s_X11_picture_f {G : zG} {w : zW} {r k : Nat} (hw : zWf w) (hr : r < 6) (h5 : 1 ≤ k ∧ k ≤ 5) (hf : c_shf w r r = nI k) : zEi G mX11_picture [.ref 0, .int (nI r)] w (-3) (zfind w k) := by
  refine zC_of (lo := [_, _, _, _, _]) kcX11_picture (Nat.le_of_ble_eq_true rfl) rfl (fun X hX hE => ?_)
  refine zk_iload_n hX dX11_picture_0 rfl ?_
  refine zk_S1i hX dX11_picture_1 kcX11_isRow mlX11_107 smX11_isRow rfl (s_X11_isRow _) (Nat.le_of_ble_eq_true rfl) rfl ?_
  refine zk_if_neB (tgt := 9) hX dX11_picture_4 (by decide) (fun c4 => ?_) (fun c4 => ?_)
  rotate_left
  · exact absurd (zrlt hr) c4
  refine zk_aload_n hX dX11_picture_9 rfl ?_
  refine zk_getR hX dX11_picture_10 flX11_18 k_0 z_0 (hw _ _ (by decide) |>.trans r_0_1) ?_
  refine zk_iload_n hX dX11_picture_13 rfl ?_
  refine zk_rows hX hw dX11_picture_14 rfl (by first | assumption | omega) ?_
  refine zk_aload_n hX dX11_picture_15 rfl ?_
  refine zk_getR hX dX11_picture_16 flX11_18 k_0 z_0 (hw _ _ (by decide) |>.trans r_0_1) ?_
  refine zk_iload_n hX dX11_picture_19 rfl ?_
  refine zk_rows hX hw dX11_picture_20 rfl (by first | assumption | omega) ?_
  refine zk_S2i hX dX11_picture_21 kcX11_shadowFinding mlX11_233 smX11_shadowFinding rfl (s_X11_shadowFinding hw hr hr) (Nat.le_of_ble_eq_true rfl) rfl ?_
  rw [hf]
  refine zk_istore_n (lo' := [_, _, _, _, _]) hX dX11_picture_24 (Nat.le_of_ble_eq_true rfl) rfl rfl ?_
  refine zk_iload_n hX dX11_picture_25 rfl ?_
  refine zk_if_eq (tgt := 38) hX dX11_picture_26 (by decide) (fun c26 => ?_) (fun c26 => ?_)
  · exact absurd (nI_inj (a := k) (b := 0) (by omega) (by decide) c26) (by omega)
  refine zk_aload_n hX dX11_picture_29 rfl ?_
  refine zk_getR hX dX11_picture_30 flX11_12 k_0 z_0 (hw _ _ (by decide) |>.trans r_0_0) ?_
  refine zk_iload_n hX dX11_picture_33 rfl ?_
  refine zk_V1i hX dX11_picture_34 kcX9_find mlX11_111 viX9_find rfl k_1 z_1 (s_X9_find hw k h5) (Nat.le_of_ble_eq_true rfl) rfl ?_
  refine zk_iret hX hE rfl ⟨rfl, rfl⟩ dX11_picture_37 ⟨_, rfl, ?_⟩
  exact ⟨rfl, rfl⟩
theorem s_X11_picture_s {G : zG} {w : zW} {r : Nat} (hw : zWf w) (hr : r < 6) (h0 : c_shf w r r = 0) (hs : w.1 131 0 = 1) : zEi G mX11_picture [.ref 0, .int (nI r)] w (-6) w := by
  refine zC_of (lo := [_, _, _, _, _]) kcX11_picture (Nat.le_of_ble_eq_true rfl) rfl (fun X hX hE => ?_)
  refine zk_iload_n hX dX11_picture_0 rfl ?_
  refine zk_S1i hX dX11_picture_1 kcX11_isRow mlX11_107 smX11_isRow rfl (s_X11_isRow _) (Nat.le_of_ble_eq_true rfl) rfl ?_
  refine zk_if_neB (tgt := 9) hX dX11_picture_4 (by decide) (fun c4 => ?_) (fun c4 => ?_)
  rotate_left
  · exact absurd (zrlt hr) c4
  refine zk_aload_n hX dX11_picture_9 rfl ?_
  refine zk_getR hX dX11_picture_10 flX11_18 k_0 z_0 (hw _ _ (by decide) |>.trans r_0_1) ?_
  refine zk_iload_n hX dX11_picture_13 rfl ?_
  refine zk_rows hX hw dX11_picture_14 rfl (by first | assumption | omega) ?_
  refine zk_aload_n hX dX11_picture_15 rfl ?_
  refine zk_getR hX dX11_picture_16 flX11_18 k_0 z_0 (hw _ _ (by decide) |>.trans r_0_1) ?_
  refine zk_iload_n hX dX11_picture_19 rfl ?_
  refine zk_rows hX hw dX11_picture_20 rfl (by first | assumption | omega) ?_
  refine zk_S2i hX dX11_picture_21 kcX11_shadowFinding mlX11_233 smX11_shadowFinding rfl (s_X11_shadowFinding hw hr hr) (Nat.le_of_ble_eq_true rfl) rfl ?_
  rw [h0]
  refine zk_istore_n (lo' := [_, _, _, _, _]) hX dX11_picture_24 (Nat.le_of_ble_eq_true rfl) rfl rfl ?_
  refine zk_iload_n hX dX11_picture_25 rfl ?_
  refine zk_if_eq (tgt := 38) hX dX11_picture_26 (by decide) (fun c26 => ?_) (fun c26 => ?_)
  rotate_left
  · exact absurd rfl c26
  refine zk_aload_n hX dX11_picture_38 rfl ?_
  refine zk_getR hX dX11_picture_39 flX11_83 k_0 z_0 (hw _ _ (by decide) |>.trans r_0_13) ?_
  refine zk_getI hX dX11_picture_42 flX11_302 k_131 z_131 ?_
  rw [hs]
  refine zk_if_eq (tgt := 51) hX dX11_picture_45 (by decide) (fun c45 => ?_) (fun c45 => ?_)
  · exact absurd c45 (by decide)
  refine zk_bipush (v := -6) hX dX11_picture_48 (by decide) ?_
  refine zk_iret hX hE rfl ⟨rfl, rfl⟩ dX11_picture_50 ⟨_, rfl, ?_⟩
  exact ⟨rfl, rfl⟩
def gJ (D : zD) (T : Nat) (W : zS) (n : Nat) : Nat := zcnt (rJ D (-1) (lz n) (lu n) (lv n) T W) (zN_ D (-1) (dF D))
theorem s_X11_picture {G : zG} {w : zW} {D : zD} {r T : Nat} {f : Nat → Nat} (hw : zWf w) (hD : zDok D) (hH : cHd w 26 D) (hRe : cRe w D) (hN : zpr (zsp D) (dJ D) ≤ 4096) (hT9 : T ≤ 99) (hS : w.1 0 8 = nI T) (hr : r < 6) (h0 : c_shf w r r = 0) (h10 : w.1 (4 + 2 * r) 0 = nI 10) (hf : ∀ y, y < 10 → w.1 (5 + 2 * r) y = nI (f y)) :
    zCi G mX11_picture [.ref 0, .int (nI r)] w (fun a w' => zPic (gJ D T (zofL f)) a (w'.1 1 0) (w.1 1 0) ∧ zFr [1, 45] [137, 138, 143, 144, 146, 163, 164, 165] [] w w' ∧ ∀ i, i ≠ 0 → w'.1 1 i = w.1 1 i) := by
  have hc := hRe.2.2.2 hN
  have hs : w.1 131 0 = 0 := by rw [hRe.2.2.1, if_neg (by omega)]
  have hC4 : zCe 164 := ⟨by decide, by decide +kernel⟩
  have hC5 : zCe 165 := ⟨by decide, by decide +kernel⟩
  have hN2 : zN_ D (-1) (dF D) ≤ 4096 := by rw [zN_code hD]; exact hN
  have hT : cTab w D (-1) := ⟨hc.1, hc.2, hN2⟩
  have hg : ∀ n, gJ D T (zofL f) n ≤ 4096 := fun n => Nat.le_trans (zcnt_le _ _) hN2
  have hw1 : zWf (zsetS w 164 (zofL f)) := zWf_of hw rfl
  have cj := s_X6_joinDark (G := G) (T := T) (w := zsetS w 164 (zofL f)) hw1 hD hT9 (o := -1) (cTab_f hT (A := []) (B := [164]) (F := []) (zFr_S (by decide)) (by decide)) hC5
  rw [show zuni (rH D (-1) T) (fun i => zdkL zno (rL D (-1) (dF D) i)) (zN_ D (-1) (dF D)) = zdv D T from rfl] at cj
  have csh := s_X8_showTo (G := G) hw (zRwR hr) hC4 h10 (fun y hy => by rw [show 4 + 2 * r + 1 = 5 + 2 * r by omega]; exact hf y hy)
  generalize zofL f = W at *
  have hw2 : zWf (zsetS (zsetS w 164 W) 165 (zdv D T)) := zWf_of hw1 rfl
  refine zC_of (lo := [_, _, _, _, _]) kcX11_picture (Nat.le_of_ble_eq_true rfl) rfl (fun X hX hE => ?_)
  have loop : ∀ m i w1 (a4 : Value), i + m = 98 → zFr [1, 45] [137, 138, 143, 144, 146, 163, 164, 165] [] w w1 → w1.1 1 = w.1 1 → zHas w1 164 W → zHas w1 165 (zdv D T) → (∀ j, j < i → gJ D T W j = 0) → zk0 G X mX11_picture 81 [.ref 0, .int (nI r), .int 0, .int (nI i), a4] [] w1 := by
    intro m
    induction m with
    | zero =>
      intro i w1 a4 hi hF e1 hW hEv hz
      obtain rfl : i = 98 := by omega
      have hw1 := zFr_wf hF hw
      refine zk_iload_n hX dX11_picture_81 rfl ?_
      refine zk_bipush (v := 98) hX dX11_picture_82 (by decide) ?_
      refine zk_icmp_ge (tgt := 134) hX dX11_picture_84 (by decide) (fun c84 => ?_) (fun c84 => ?_)
      rotate_left
      · exact absurd (by decide) c84
      refine zk_bipush (v := -9) hX dX11_picture_134 (by decide) ?_
      refine zk_iret hX hE rfl ⟨rfl, rfl⟩ dX11_picture_136 ⟨_, rfl, ?_⟩
      exact ⟨Or.inr ⟨hz, rfl, by rw [e1]⟩, hF, fun i _ => by rw [e1]⟩
    | succ m ih =>
      intro i w1 a4 hi hF e1 hW hEv hz
      have hw1 := zFr_wf hF hw
      generalize eL : zbecome w1 45 (nI (lz i)) (nI (lu i) - 3) (nI (lv i) - 3) = w2
      have hL2 : zLm w2 45 (lz i) (lu i) (lv i) := by rw [← eL]; exact zLm_n _ _ _
      have hF12 : zFr [45] [] [] w1 w2 := by rw [← eL]; exact zbecome_fr (by decide) (by decide)
      have hF2 : zFr [1, 45] [137, 138, 143, 144, 146, 163, 164, 165] [] w w2 := zFr_t hF (zFr_s hF12 (by decide))
      have hw2 := zFr_wf hF2 hw
      have cb : zEv G mX3_becomeNumber [.ref 45, .int (nI i)] w1 w2 := by rw [← eL]; exact s_X3_becomeNumber (Or.inr rfl) (by omega)
      have f1 : w2.1 1 = w.1 1 := (hF12.2.1 1 (by decide) (by decide)).trans e1
      have ct := s_X11_numberThrowingBy (G := G) (T := T) (W := W) hw2 hD (cHd_o hH (fun a h1 h2 => hF2.2.1 a (by simp; omega) (by omega))) (cRe_f hRe hF2.2 (by decide)) hN hT9 (by rw [hF2.2.1 0 (by decide) (by decide)]; exact hS) hL2 (l_ok (by omega)) (zHas_o hW (hF12.2.2.1 164 (by decide))) (zHas_o hEv (hF12.2.2.1 165 (by decide)))
      have gi := hg i
      have eg : zcnt (rJ D (-1) (lz i) (lu i) (lv i) T W) (zN_ D (-1) (dF D)) = gJ D T W i := rfl
      rw [eg] at ct
      by_cases gz : gJ D T W i = 0
      · rw [gz] at ct
        refine zk_iload_n hX dX11_picture_81 rfl ?_
        refine zk_bipush (v := 98) hX dX11_picture_82 (by decide) ?_
        refine zk_icmp_ge (tgt := 134) hX dX11_picture_84 (by decide) (fun c84 => ?_) (fun c84 => ?_)
        · exact absurd c84 (nI_ge (b := 98) (by omega) (by decide))
        refine zk_aload_n hX dX11_picture_87 rfl ?_
        refine zk_getR hX dX11_picture_88 flX11_52 k_0 z_0 (hw1 _ _ (by decide) |>.trans r_0_7) ?_
        refine zk_iload_n hX dX11_picture_91 rfl ?_
        refine zk_V1v hX dX11_picture_92 kcX3_becomeNumber mlX11_361 viX3_becomeNumber rfl k_45 z_45 cb (Nat.le_of_ble_eq_true rfl) rfl ?_
        refine zk_aload_n hX dX11_picture_95 rfl ?_
        refine zk_aload_n hX dX11_picture_96 rfl ?_
        refine zk_getR hX dX11_picture_97 flX11_52 k_0 z_0 (hw2 _ _ (by decide) |>.trans r_0_7) ?_
        refine zk_V1ip hX dX11_picture_100 kcX11_numberThrowingBy mlX11_364 viX11_numberThrowingBy rfl k_0 z_0 ct (Nat.le_of_ble_eq_true rfl) rfl (fun x w3 q3 => ?_)
        obtain ⟨rfl, k3⟩ := q3
        refine zk_istore (lo' := [_, _, _, _, _]) hX dX11_picture_103 (Nat.le_of_ble_eq_true rfl) rfl rfl ?_
        refine zk_iload hX dX11_picture_105 rfl ?_
        refine zk_if_le (tgt := 128) hX dX11_picture_107 (by decide) (fun c107 => ?_) (fun c107 => ?_)
        rotate_left
        · exact absurd (by decide) c107
        refine zk_iinc (lo' := [_, _, _, _, _]) hX dX11_picture_128 rfl (by first | exact zinc _ | exact rfl) (Nat.le_of_ble_eq_true rfl) rfl rfl ?_
        refine zk_goto (tgt := 81) hX dX11_picture_131 (by decide) ?_
        refine ih (i + 1) w3 _ (by omega) (zFr_t hF2 (zFr_s k3 (by decide))) ((k3.2.1 1 (by decide) (by decide)).trans f1) (zHas_o hW ((k3.2.2.1 164 (by decide)).trans (hF12.2.2.1 164 (by decide)))) (zHas_o hEv ((k3.2.2.1 165 (by decide)).trans (hF12.2.2.1 165 (by decide)))) (fun j hj => ?_)
        rcases Nat.lt_succ_iff_lt_or_eq.mp hj with q | rfl
        · exact hz j q
        · exact gz
      · refine zk_iload_n hX dX11_picture_81 rfl ?_
        refine zk_bipush (v := 98) hX dX11_picture_82 (by decide) ?_
        refine zk_icmp_ge (tgt := 134) hX dX11_picture_84 (by decide) (fun c84 => ?_) (fun c84 => ?_)
        · exact absurd c84 (nI_ge (b := 98) (by omega) (by decide))
        refine zk_aload_n hX dX11_picture_87 rfl ?_
        refine zk_getR hX dX11_picture_88 flX11_52 k_0 z_0 (hw1 _ _ (by decide) |>.trans r_0_7) ?_
        refine zk_iload_n hX dX11_picture_91 rfl ?_
        refine zk_V1v hX dX11_picture_92 kcX3_becomeNumber mlX11_361 viX3_becomeNumber rfl k_45 z_45 cb (Nat.le_of_ble_eq_true rfl) rfl ?_
        refine zk_aload_n hX dX11_picture_95 rfl ?_
        refine zk_aload_n hX dX11_picture_96 rfl ?_
        refine zk_getR hX dX11_picture_97 flX11_52 k_0 z_0 (hw2 _ _ (by decide) |>.trans r_0_7) ?_
        refine zk_V1ip hX dX11_picture_100 kcX11_numberThrowingBy mlX11_364 viX11_numberThrowingBy rfl k_0 z_0 ct (Nat.le_of_ble_eq_true rfl) rfl (fun x w3 q3 => ?_)
        obtain ⟨rfl, k3⟩ := q3
        have hw3 := zFr_wf k3 hw2
        have hL3 : zLm w3 45 (lz i) (lu i) (lv i) := (by unfold zLm; rw [k3.2.1 45 (by decide) (by decide)]; exact hL2)
        refine zk_istore (lo' := [_, _, _, _, _]) hX dX11_picture_103 (Nat.le_of_ble_eq_true rfl) rfl rfl ?_
        refine zk_iload hX dX11_picture_105 rfl ?_
        refine zk_if_le (tgt := 128) hX dX11_picture_107 (by decide) (fun c107 => ?_) (fun c107 => ?_)
        · exact absurd (nI_leD (y := 0) c107 (by omega) (by omega)) (by omega)
        refine zk_aload_n hX dX11_picture_110 rfl ?_
        refine zk_getR hX dX11_picture_111 flX11_12 k_0 z_0 (hw3 _ _ (by decide) |>.trans r_0_0) ?_
        refine zk_iload hX dX11_picture_114 rfl ?_
        refine zk_V1i hX dX11_picture_116 kcX9_tell mlX11_132 viX9_tell rfl k_1 z_1 (s_X9_tell _) (Nat.le_of_ble_eq_true rfl) rfl ?_
        refine zk_pop hX dX11_picture_119 rfl ?_
        refine zk_aload_n hX dX11_picture_120 rfl ?_
        refine zk_getR hX dX11_picture_121 flX11_52 k_0 z_0 (hw3 _ _ (by decide) |>.trans r_0_7) ?_
        refine zk_V0i hX dX11_picture_124 kcX3_code mlX11_201 viX3_code rfl k_45 z_45 (s_X3_code (Or.inr rfl)) (Nat.le_of_ble_eq_true rfl) rfl ?_
        rw [zsi_o (by decide), hL3.1, hL3.2.1, hL3.2.2, zcode_lc]
        refine zk_iret hX hE rfl ⟨rfl, rfl⟩ dX11_picture_127 ⟨_, rfl, ?_⟩
        refine ⟨Or.inl ⟨i, by omega, hz, by omega, rfl, by rw [zsi_1, if_pos ⟨rfl, rfl⟩]⟩, zFr_t hF2 (zFr_t (zFr_s k3 (by decide)) (zFr_i (by decide) (by decide))), fun i hi => ?_⟩
        rw [zsi_1, if_neg (fun q => hi q.2), k3.2.1 1 (by decide) (by decide), f1]
  refine zk_iload_n hX dX11_picture_0 rfl ?_
  refine zk_S1i hX dX11_picture_1 kcX11_isRow mlX11_107 smX11_isRow rfl (s_X11_isRow _) (Nat.le_of_ble_eq_true rfl) rfl ?_
  refine zk_if_neB (tgt := 9) hX dX11_picture_4 (by decide) (fun c4 => ?_) (fun c4 => ?_)
  rotate_left
  · exact absurd (zrlt hr) c4
  refine zk_aload_n hX dX11_picture_9 rfl ?_
  refine zk_getR hX dX11_picture_10 flX11_18 k_0 z_0 (hw _ _ (by decide) |>.trans r_0_1) ?_
  refine zk_iload_n hX dX11_picture_13 rfl ?_
  refine zk_rows hX hw dX11_picture_14 rfl (by first | assumption | omega) ?_
  refine zk_aload_n hX dX11_picture_15 rfl ?_
  refine zk_getR hX dX11_picture_16 flX11_18 k_0 z_0 (hw _ _ (by decide) |>.trans r_0_1) ?_
  refine zk_iload_n hX dX11_picture_19 rfl ?_
  refine zk_rows hX hw dX11_picture_20 rfl (by first | assumption | omega) ?_
  refine zk_S2i hX dX11_picture_21 kcX11_shadowFinding mlX11_233 smX11_shadowFinding rfl (s_X11_shadowFinding hw hr hr) (Nat.le_of_ble_eq_true rfl) rfl ?_
  rw [h0]
  refine zk_istore_n (lo' := [_, _, _, _, _]) hX dX11_picture_24 (Nat.le_of_ble_eq_true rfl) rfl rfl ?_
  refine zk_iload_n hX dX11_picture_25 rfl ?_
  refine zk_if_eq (tgt := 38) hX dX11_picture_26 (by decide) (fun c26 => ?_) (fun c26 => ?_)
  rotate_left
  · exact absurd rfl c26
  refine zk_aload_n hX dX11_picture_38 rfl ?_
  refine zk_getR hX dX11_picture_39 flX11_83 k_0 z_0 (hw _ _ (by decide) |>.trans r_0_13) ?_
  refine zk_getI hX dX11_picture_42 flX11_302 k_131 z_131 ?_
  rw [hs]
  refine zk_if_eq (tgt := 51) hX dX11_picture_45 (by decide) (fun c45 => ?_) (fun c45 => ?_)
  rotate_left
  · exact absurd rfl c45
  refine zk_aload_n hX dX11_picture_51 rfl ?_
  refine zk_getR hX dX11_picture_52 flX11_18 k_0 z_0 (hw _ _ (by decide) |>.trans r_0_1) ?_
  refine zk_iload_n hX dX11_picture_55 rfl ?_
  refine zk_rows hX hw dX11_picture_56 rfl (by first | assumption | omega) ?_
  refine zk_aload_n hX dX11_picture_57 rfl ?_
  refine zk_getR hX dX11_picture_58 flX11_101 k_0 z_0 (hw _ _ (by decide) |>.trans r_0_16) ?_
  refine zk_V1v hX dX11_picture_61 kcX8_showTo mlX11_240 viX8_showTo rfl (zRwR0 (by first | assumption | omega)) (zRw_r _ (by first | assumption | omega)).2.1 csh (Nat.le_of_ble_eq_true rfl) rfl ?_
  refine zk_aload_n hX dX11_picture_64 rfl ?_
  refine zk_getR hX dX11_picture_65 flX11_83 k_0 z_0 (hw1 _ _ (by decide) |>.trans r_0_13) ?_
  refine zk_aload_n hX dX11_picture_68 rfl ?_
  refine zk_getI hX dX11_picture_69 flX11_55 k_0 z_0 ?_
  rw [zsetS_1, hS]
  refine zk_aload_n hX dX11_picture_72 rfl ?_
  refine zk_getR hX dX11_picture_73 flX11_104 k_0 z_0 (hw1 _ _ (by decide) |>.trans r_0_17) ?_
  refine zk_V2v hX dX11_picture_76 kcX6_joinDark mlX11_326 viX6_joinDark rfl k_131 z_131 cj (Nat.le_of_ble_eq_true rfl) rfl ?_
  refine zk_iconst (v := 0) hX dX11_picture_79 (by decide) ?_
  refine zk_istore_n (lo' := [_, _, _, _, _]) hX dX11_picture_80 (Nat.le_of_ble_eq_true rfl) rfl rfl ?_
  exact loop 98 0 _ _ (by omega) (zFr_t (zFr_S (by decide)) (zFr_S (by decide))) rfl (zHas_o zsetS_has (zsetS_2 (by decide))) zsetS_has (fun j hj => absurd hj (by omega))

