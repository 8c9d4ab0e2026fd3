/-! digest of the class -/
def mx (h : Int64) (x : Int32) : Int64 := 31 * h + x.toInt64
def zit (f : Nat → Int64 → Int64) : Nat → Int64 → Int64
  | 0, h => h
  | n + 1, h => f n (zit f n h)
theorem zit_c {f g : Nat → Int64 → Int64} : ∀ {n : Nat} {h : Int64}, (∀ i h, i < n → f i h = g i h) → zit f n h = zit g n h
  | 0, _, _ => rfl
  | n + 1, h, e => by
    show f n (zit f n h) = g n (zit g n h)
    rw [zit_c (fun i h hi => e i h (by omega)), e n _ (by omega)]
theorem zmixL_it {f : Nat → Int32} : ∀ {n : Nat} {h : Int64}, zmixL (fun y => (f y).toInt64) n h = zit (fun y h => mx h (f y)) n h
  | 0, _ => rfl
  | n + 1, h => by
    show 31 * zmixL (fun y => (f y).toInt64) n h + (f n).toInt64 = mx (zit (fun y h => mx h (f y)) n h) (f n)
    rw [zmixL_it]
    rfl
def kW (w : zW) (i : Nat) (h : Int64) : Int64 := mx h (w.1 27 i)
def kF (w : zW) (f : Nat) (h : Int64) : Int64 := mx (mx (mx (mx h (w.1 28 f)) (w.1 29 f)) (w.1 30 f)) (w.1 31 f)
def kJ (w : zW) (j : Nat) (h : Int64) : Int64 := mx (mx (mx h (w.1 32 j)) (w.1 33 j)) (w.1 34 j)
theorem s_X2_digestOn {G : zG} {w : zW} {D : zD} (hw : zWf w) (hD : zDok D) (hH : cHd w 26 D) (h : Int64) : zEl G mX2_digestOn [.ref 26, .long h] w (zit (kJ w) (dJ D) (zit (kF w) (dF D) (zit (kW w) (dW D) h))) w := by
  have h1 := hD.1
  refine zC_of (lo := [_, _, _, _]) kcX2_digestOn (Nat.le_of_ble_eq_true rfl) rfl (fun X hX hE => ?_)
  have loop3 : ∀ m i (q : Int64), i + m = dJ D → zk0 G X mX2_digestOn 88 [.ref 26, .long (zit (kJ w) i q), .null, .int (nI i)] [] w → zk0 G X mX2_digestOn 88 [.ref 26, .long (zit (kJ w) i q), .null, .int (nI i)] [] w := fun _ _ _ _ z => z
  have l3 : ∀ (q : Int64), q = zit (kF w) (dF D) (zit (kW w) (dW D) h) → ∀ m i, i + m = dJ D → zk0 G X mX2_digestOn 88 [.ref 26, .long (zit (kJ w) i q), .null, .int (nI i)] [] w := by
    intro q eq m
    induction m with
    | zero =>
      intro i hi
      obtain rfl : i = dJ D := by omega
      refine zk_iload_n hX dX2_digestOn_88 rfl ?_
      refine zk_aload_n hX dX2_digestOn_89 rfl ?_
      refine zk_getI hX dX2_digestOn_90 flX2_43 k_26 z_26 ?_
      rw [hH.1.2.2]
      refine zk_icmp_ge (tgt := 134) hX dX2_digestOn_93 (by decide) (fun c93 => ?_) (fun c93 => ?_)
      rotate_left
      · exact absurd (nI_le (Nat.le_refl _) (by omega)) c93
      refine zk_lload_n hX dX2_digestOn_134 rfl ?_
      refine zk_lret hX hE rfl ⟨rfl, rfl⟩ dX2_digestOn_135 ⟨_, rfl, ?_⟩
      exact ⟨by rw [eq], rfl⟩
    | succ m ih =>
      intro i hi
      refine zk_iload_n hX dX2_digestOn_88 rfl ?_
      refine zk_aload_n hX dX2_digestOn_89 rfl ?_
      refine zk_getI hX dX2_digestOn_90 flX2_43 k_26 z_26 ?_
      rw [hH.1.2.2]
      refine zk_icmp_ge (tgt := 134) hX dX2_digestOn_93 (by decide) (fun c93 => ?_) (fun c93 => ?_)
      · exact absurd c93 (nI_ge (by omega) (by omega))
      refine zk_lload_n hX dX2_digestOn_96 rfl ?_
      refine zk_aload_n hX dX2_digestOn_97 rfl ?_
      refine zk_getR hX dX2_digestOn_98 flX2_27 k_26 z_26 (hw _ _ (by decide) |>.trans r_26_8) ?_
      refine zk_iload_n hX dX2_digestOn_101 rfl ?_
      refine zk_ialdE hX dX2_digestOn_102 rfl k_32 z_32 (by first | assumption | omega) rfl ?_
      refine zk_i2l hX dX2_digestOn_103 ?_
      refine zk_N2l hX dX2_digestOn_104 kcX11_mix mnX2_87 smX11_mix rfl (s_X11_mix _ _) (Nat.le_of_ble_eq_true rfl) rfl ?_
      refine zk_aload_n hX dX2_digestOn_107 rfl ?_
      refine zk_getR hX dX2_digestOn_108 flX2_30 k_26 z_26 (hw _ _ (by decide) |>.trans r_26_9) ?_
      refine zk_iload_n hX dX2_digestOn_111 rfl ?_
      refine zk_ialdE hX dX2_digestOn_112 rfl k_33 z_33 (by first | assumption | omega) rfl ?_
      refine zk_i2l hX dX2_digestOn_113 ?_
      refine zk_N2l hX dX2_digestOn_114 kcX11_mix mnX2_87 smX11_mix rfl (s_X11_mix _ _) (Nat.le_of_ble_eq_true rfl) rfl ?_
      refine zk_aload_n hX dX2_digestOn_117 rfl ?_
      refine zk_getR hX dX2_digestOn_118 flX2_33 k_26 z_26 (hw _ _ (by decide) |>.trans r_26_10) ?_
      refine zk_iload_n hX dX2_digestOn_121 rfl ?_
      refine zk_ialdE hX dX2_digestOn_122 rfl k_34 z_34 (by first | assumption | omega) rfl ?_
      refine zk_i2l hX dX2_digestOn_123 ?_
      refine zk_N2l hX dX2_digestOn_124 kcX11_mix mnX2_87 smX11_mix rfl (s_X11_mix _ _) (Nat.le_of_ble_eq_true rfl) rfl ?_
      refine zk_lstore_n (lo' := [_, _, _, _]) hX dX2_digestOn_127 (Nat.le_of_ble_eq_true rfl) rfl rfl ?_
      refine zk_iinc (lo' := [_, _, _, _]) hX dX2_digestOn_128 rfl (by first | exact zinc _ | exact rfl) (Nat.le_of_ble_eq_true rfl) rfl rfl ?_
      refine zk_goto (tgt := 88) hX dX2_digestOn_131 (by decide) ?_
      exact ih (i + 1) (by omega)
  have l2 : ∀ (q : Int64), q = zit (kW w) (dW D) h → ∀ m i, i + m = dF D → zk0 G X mX2_digestOn 30 [.ref 26, .long (zit (kF w) i q), .null, .int (nI i)] [] w := by
    intro q eq m
    induction m with
    | zero =>
      intro i hi
      obtain rfl : i = dF D := by omega
      refine zk_iload_n hX dX2_digestOn_30 rfl ?_
      refine zk_aload_n hX dX2_digestOn_31 rfl ?_
      refine zk_getI hX dX2_digestOn_32 flX2_40 k_26 z_26 ?_
      rw [hH.1.2.1]
      refine zk_icmp_ge (tgt := 86) hX dX2_digestOn_35 (by decide) (fun c35 => ?_) (fun c35 => ?_)
      rotate_left
      · exact absurd (nI_le (Nat.le_refl _) (by omega)) c35
      refine zk_iconst (v := 0) hX dX2_digestOn_86 (by decide) ?_
      refine zk_istore_n (lo' := [_, _, _, _]) hX dX2_digestOn_87 (Nat.le_of_ble_eq_true rfl) rfl rfl ?_
      exact l3 _ (by rw [eq]) (dJ D) 0 (by omega)
    | succ m ih =>
      intro i hi
      refine zk_iload_n hX dX2_digestOn_30 rfl ?_
      refine zk_aload_n hX dX2_digestOn_31 rfl ?_
      refine zk_getI hX dX2_digestOn_32 flX2_40 k_26 z_26 ?_
      rw [hH.1.2.1]
      refine zk_icmp_ge (tgt := 86) hX dX2_digestOn_35 (by decide) (fun c35 => ?_) (fun c35 => ?_)
      · exact absurd c35 (nI_ge (by omega) (by omega))
      refine zk_lload_n hX dX2_digestOn_38 rfl ?_
      refine zk_aload_n hX dX2_digestOn_39 rfl ?_
      refine zk_getR hX dX2_digestOn_40 flX2_15 k_26 z_26 (hw _ _ (by decide) |>.trans r_26_4) ?_
      refine zk_iload_n hX dX2_digestOn_43 rfl ?_
      refine zk_ialdE hX dX2_digestOn_44 rfl k_28 z_28 (by first | assumption | omega) rfl ?_
      refine zk_i2l hX dX2_digestOn_45 ?_
      refine zk_N2l hX dX2_digestOn_46 kcX11_mix mnX2_87 smX11_mix rfl (s_X11_mix _ _) (Nat.le_of_ble_eq_true rfl) rfl ?_
      refine zk_aload_n hX dX2_digestOn_49 rfl ?_
      refine zk_getR hX dX2_digestOn_50 flX2_18 k_26 z_26 (hw _ _ (by decide) |>.trans r_26_5) ?_
      refine zk_iload_n hX dX2_digestOn_53 rfl ?_
      refine zk_ialdE hX dX2_digestOn_54 rfl k_29 z_29 (by first | assumption | omega) rfl ?_
      refine zk_i2l hX dX2_digestOn_55 ?_
      refine zk_N2l hX dX2_digestOn_56 kcX11_mix mnX2_87 smX11_mix rfl (s_X11_mix _ _) (Nat.le_of_ble_eq_true rfl) rfl ?_
      refine zk_aload_n hX dX2_digestOn_59 rfl ?_
      refine zk_getR hX dX2_digestOn_60 flX2_21 k_26 z_26 (hw _ _ (by decide) |>.trans r_26_6) ?_
      refine zk_iload_n hX dX2_digestOn_63 rfl ?_
      refine zk_ialdE hX dX2_digestOn_64 rfl k_30 z_30 (by first | assumption | omega) rfl ?_
      refine zk_i2l hX dX2_digestOn_65 ?_
      refine zk_N2l hX dX2_digestOn_66 kcX11_mix mnX2_87 smX11_mix rfl (s_X11_mix _ _) (Nat.le_of_ble_eq_true rfl) rfl ?_
      refine zk_aload_n hX dX2_digestOn_69 rfl ?_
      refine zk_getR hX dX2_digestOn_70 flX2_24 k_26 z_26 (hw _ _ (by decide) |>.trans r_26_7) ?_
      refine zk_iload_n hX dX2_digestOn_73 rfl ?_
      refine zk_ialdE hX dX2_digestOn_74 rfl k_31 z_31 (by first | assumption | omega) rfl ?_
      refine zk_i2l hX dX2_digestOn_75 ?_
      refine zk_N2l hX dX2_digestOn_76 kcX11_mix mnX2_87 smX11_mix rfl (s_X11_mix _ _) (Nat.le_of_ble_eq_true rfl) rfl ?_
      refine zk_lstore_n (lo' := [_, _, _, _]) hX dX2_digestOn_79 (Nat.le_of_ble_eq_true rfl) rfl rfl ?_
      refine zk_iinc (lo' := [_, _, _, _]) hX dX2_digestOn_80 rfl (by first | exact zinc _ | exact rfl) (Nat.le_of_ble_eq_true rfl) rfl rfl ?_
      refine zk_goto (tgt := 30) hX dX2_digestOn_83 (by decide) ?_
      exact ih (i + 1) (by omega)
  have l1 : ∀ m i, i + m = dW D → zk0 G X mX2_digestOn 2 [.ref 26, .long (zit (kW w) i h), .null, .int (nI i)] [] w := by
    intro m
    induction m with
    | zero =>
      intro i hi
      obtain rfl : i = dW D := by omega
      refine zk_iload_n hX dX2_digestOn_2 rfl ?_
      refine zk_aload_n hX dX2_digestOn_3 rfl ?_
      refine zk_getI hX dX2_digestOn_4 flX2_36 k_26 z_26 ?_
      rw [hH.1.1]
      refine zk_icmp_ge (tgt := 28) hX dX2_digestOn_7 (by decide) (fun c7 => ?_) (fun c7 => ?_)
      rotate_left
      · exact absurd (nI_le (Nat.le_refl _) (by omega)) c7
      refine zk_iconst (v := 0) hX dX2_digestOn_28 (by decide) ?_
      refine zk_istore_n (lo' := [_, _, _, _]) hX dX2_digestOn_29 (Nat.le_of_ble_eq_true rfl) rfl rfl ?_
      exact l2 _ rfl (dF D) 0 (by omega)
    | succ m ih =>
      intro i hi
      refine zk_iload_n hX dX2_digestOn_2 rfl ?_
      refine zk_aload_n hX dX2_digestOn_3 rfl ?_
      refine zk_getI hX dX2_digestOn_4 flX2_36 k_26 z_26 ?_
      rw [hH.1.1]
      refine zk_icmp_ge (tgt := 28) hX dX2_digestOn_7 (by decide) (fun c7 => ?_) (fun c7 => ?_)
      · exact absurd c7 (nI_ge (by omega) (by omega))
      refine zk_lload_n hX dX2_digestOn_10 rfl ?_
      refine zk_aload_n hX dX2_digestOn_11 rfl ?_
      refine zk_getR hX dX2_digestOn_12 flX2_9 k_26 z_26 (hw _ _ (by decide) |>.trans r_26_3) ?_
      refine zk_iload_n hX dX2_digestOn_15 rfl ?_
      refine zk_ialdE hX dX2_digestOn_16 rfl k_27 z_27 (by first | assumption | omega) rfl ?_
      refine zk_i2l hX dX2_digestOn_17 ?_
      refine zk_N2l hX dX2_digestOn_18 kcX11_mix mnX2_87 smX11_mix rfl (s_X11_mix _ _) (Nat.le_of_ble_eq_true rfl) rfl ?_
      refine zk_lstore_n (lo' := [_, _, _, _]) hX dX2_digestOn_21 (Nat.le_of_ble_eq_true rfl) rfl rfl ?_
      refine zk_iinc (lo' := [_, _, _, _]) hX dX2_digestOn_22 rfl (by first | exact zinc _ | exact rfl) (Nat.le_of_ble_eq_true rfl) rfl rfl ?_
      refine zk_goto (tgt := 2) hX dX2_digestOn_25 (by decide) ?_
      exact ih (i + 1) (by omega)
  refine zk_iconst (v := 0) hX dX2_digestOn_0 (by decide) ?_
  refine zk_istore_n (lo' := [_, _, _, _]) hX dX2_digestOn_1 (Nat.le_of_ble_eq_true rfl) rfl rfl ?_
  exact l1 (dW D) 0 (by omega)
def kT (w : zW) (p j : Nat) (h : Int64) : Int64 := mx h (w.1 (48 + 4 * p) j)
def kP (w : zW) (nJ p : Nat) (h : Int64) : Int64 := zit (kT w p) nJ (mx (mx (mx h (w.1 (47 + 4 * p) 3)) (w.1 (47 + 4 * p) 5)) (w.1 (47 + 4 * p) 4))
theorem s_X5_digestOn {G : zG} {w : zW} {p n : Nat} (hw : zWf w) (hp : p < 12) (hn : n ≤ 6) (h : Int64) : zEl G mX5_digestOn [.ref (47 + 4 * p), .long h, .int (nI n)] w (kP w n p h) w := by
  refine zC_of (lo := [_, _, _, _, _]) kcX5_digestOn (Nat.le_of_ble_eq_true rfl) rfl (fun X hX hE => ?_)
  have loop : ∀ m i, i + m = n → zk0 G X mX5_digestOn 29 [.ref (47 + 4 * p), .long (zit (kT w p) i (mx (mx (mx h (w.1 (47 + 4 * p) 3)) (w.1 (47 + 4 * p) 5)) (w.1 (47 + 4 * p) 4))), .null, .int (nI n), .int (nI i)] [] w := by
    intro m
    induction m with
    | zero =>
      intro i hi
      obtain rfl : i = n := by omega
      refine zk_iload hX dX5_digestOn_29 rfl ?_
      refine zk_iload_n hX dX5_digestOn_31 rfl ?_
      refine zk_icmp_ge (tgt := 61) hX dX5_digestOn_32 (by decide) (fun c32 => ?_) (fun c32 => ?_)
      rotate_left
      · exact absurd (nI_le (Nat.le_refl _) (by omega)) c32
      refine zk_lload_n hX dX5_digestOn_61 rfl ?_
      refine zk_lret hX hE rfl ⟨rfl, rfl⟩ dX5_digestOn_62 ⟨_, rfl, ?_⟩
      exact ⟨rfl, rfl⟩
    | succ m ih =>
      intro i hi
      refine zk_iload hX dX5_digestOn_29 rfl ?_
      refine zk_iload_n hX dX5_digestOn_31 rfl ?_
      refine zk_icmp_ge (tgt := 61) hX dX5_digestOn_32 (by decide) (fun c32 => ?_) (fun c32 => ?_)
      · exact absurd c32 (nI_ge (by omega) (by omega))
      refine zk_iload hX dX5_digestOn_35 rfl ?_
      refine zk_bipush (v := 6) hX dX5_digestOn_37 (by decide) ?_
      refine zk_icmp_ge (tgt := 61) hX dX5_digestOn_39 (by decide) (fun c39 => ?_) (fun c39 => ?_)
      · exact absurd c39 (nI_ge (b := 6) (by omega) (by decide))
      refine zk_lload_n hX dX5_digestOn_42 rfl ?_
      refine zk_aload_n hX dX5_digestOn_43 rfl ?_
      refine zk_getR hX dX5_digestOn_44 flX5_9 (zPok (by first | assumption | omega)) (zPoz _ (by first | assumption | omega)).1 ((hw _ _ (by omega)).trans (zPoz _ (by first | assumption | omega)).2.2.2.2.1) ?_
      refine zk_iload hX dX5_digestOn_47 rfl ?_
      refine zk_ialdE hX dX5_digestOn_49 rfl (show 48 + 4 * _ < 202 by omega) (zPoz _ (by first | assumption | omega)).2.1 (by first | assumption | omega) rfl ?_
      refine zk_i2l hX dX5_digestOn_50 ?_
      refine zk_N2l hX dX5_digestOn_51 kcX11_mix mnX5_86 smX11_mix rfl (s_X11_mix _ _) (Nat.le_of_ble_eq_true rfl) rfl ?_
      refine zk_lstore_n (lo' := [_, _, _, _, _]) hX dX5_digestOn_54 (Nat.le_of_ble_eq_true rfl) rfl rfl ?_
      refine zk_iinc (lo' := [_, _, _, _, _]) hX dX5_digestOn_55 rfl (by first | exact zinc _ | exact rfl) (Nat.le_of_ble_eq_true rfl) rfl rfl ?_
      refine zk_goto (tgt := 29) hX dX5_digestOn_58 (by decide) ?_
      exact ih (i + 1) (by omega)
  refine zk_lload_n hX dX5_digestOn_0 rfl ?_
  refine zk_aload_n hX dX5_digestOn_1 rfl ?_
  refine zk_getI hX dX5_digestOn_2 flX5_63 (zPok (by first | assumption | omega)) (zPoz _ (by first | assumption | omega)).1 ?_
  refine zk_i2l hX dX5_digestOn_5 ?_
  refine zk_N2l hX dX5_digestOn_6 kcX11_mix mnX5_86 smX11_mix rfl (s_X11_mix _ _) (Nat.le_of_ble_eq_true rfl) rfl ?_
  refine zk_aload_n hX dX5_digestOn_9 rfl ?_
  refine zk_getI hX dX5_digestOn_10 flX5_42 (zPok (by first | assumption | omega)) (zPoz _ (by first | assumption | omega)).1 ?_
  refine zk_i2l hX dX5_digestOn_13 ?_
  refine zk_N2l hX dX5_digestOn_14 kcX11_mix mnX5_86 smX11_mix rfl (s_X11_mix _ _) (Nat.le_of_ble_eq_true rfl) rfl ?_
  refine zk_aload_n hX dX5_digestOn_17 rfl ?_
  refine zk_getI hX dX5_digestOn_18 flX5_31 (zPok (by first | assumption | omega)) (zPoz _ (by first | assumption | omega)).1 ?_
  refine zk_i2l hX dX5_digestOn_21 ?_
  refine zk_N2l hX dX5_digestOn_22 kcX11_mix mnX5_86 smX11_mix rfl (s_X11_mix _ _) (Nat.le_of_ble_eq_true rfl) rfl ?_
  refine zk_lstore_n (lo' := [_, _, _, _, _]) hX dX5_digestOn_25 (Nat.le_of_ble_eq_true rfl) rfl rfl ?_
  refine zk_iconst (v := 0) hX dX5_digestOn_26 (by decide) ?_
  refine zk_istore (lo' := [_, _, _, _, _]) hX dX5_digestOn_27 (Nat.le_of_ble_eq_true rfl) rfl rfl ?_
  exact loop n 0 (by omega)
/-- a beast -/
def kB (b : zBd) (x : Int32) (k : Nat) (h : Int64) : Int64 := if bT b k = true then mx (zdigC (bY b k) (zdigC (bM b k) h)) x else mx h (-1)
theorem s_X0_digestOn {G : zG} {w : zW} {k : Nat} {b : zBd} (hw : zWf w) (hk : k < 6) (hB : cBs w b) (h : Int64) : zEl G mX0_digestOn [.ref (96 + 3 * k), .long h] w (kB b (w.1 (96 + 3 * k) 2) k h) w := by
  obtain ⟨B1, B2, B3⟩ := hB k hk
  refine zC_of (lo := [_, _, _]) kcX0_digestOn (Nat.le_of_ble_eq_true rfl) rfl (fun X hX hE => ?_)
  refine zk_aload_n hX dX0_digestOn_0 rfl ?_
  refine zk_getI hX dX0_digestOn_1 flX0_41 (zBek (by first | assumption | omega)) (zBez _ (by first | assumption | omega)).1 ?_
  refine zk_if_ne (tgt := 15) hX dX0_digestOn_4 (by decide) (fun c4 => ?_) (fun c4 => ?_)
  · refine zk_aload_n hX dX0_digestOn_15 rfl ?_
    refine zk_getR hX dX0_digestOn_16 flX0_16 (zBek (by first | assumption | omega)) (zBez _ (by first | assumption | omega)).1 ((hw _ _ (by omega)).trans (zBez _ (by first | assumption | omega)).2.2.2.2) ?_
    refine zk_aload_n hX dX0_digestOn_19 rfl ?_
    refine zk_getR hX dX0_digestOn_20 flX0_10 (zBek (by first | assumption | omega)) (zBez _ (by first | assumption | omega)).1 ((hw _ _ (by omega)).trans (zBez _ (by first | assumption | omega)).2.2.2.1) ?_
    refine zk_lload_n hX dX0_digestOn_23 rfl ?_
    refine zk_V1l hX dX0_digestOn_24 kcX1_digestOn mlX0_51 viX1_digestOn rfl (show 97 + 3 * _ < 202 by omega) (zBez _ (by first | assumption | omega)).2.1 (s_X1_digestOn (zBeM hk) B1.1 h) (Nat.le_of_ble_eq_true rfl) rfl ?_
    refine zk_V1l hX dX0_digestOn_27 kcX1_digestOn mlX0_51 viX1_digestOn rfl (show 98 + 3 * _ < 202 by omega) (zBez _ (by first | assumption | omega)).2.2.1 (s_X1_digestOn (zBeY hk) B1.2 _) (Nat.le_of_ble_eq_true rfl) rfl ?_
    refine zk_aload_n hX dX0_digestOn_30 rfl ?_
    refine zk_getI hX dX0_digestOn_31 flX0_55 (zBek (by first | assumption | omega)) (zBez _ (by first | assumption | omega)).1 ?_
    refine zk_i2l hX dX0_digestOn_34 ?_
    refine zk_N2l hX dX0_digestOn_35 kcX11_mix mnX0_45 smX11_mix rfl (s_X11_mix _ _) (Nat.le_of_ble_eq_true rfl) rfl ?_
    refine zk_lret hX hE rfl ⟨rfl, rfl⟩ dX0_digestOn_38 ⟨_, rfl, ?_⟩
    first
    | (refine ⟨?_, rfl⟩
       unfold kB
       rw [if_pos (B2.mp (by first | exact c4 | exact fun z => c4 z))]
       rfl)
    | (refine ⟨?_, rfl⟩
       unfold kB
       rw [if_neg (fun z => B2.mpr z (by first | exact c4 | exact Decidable.not_not.mp c4))]
       rfl)
  · refine zk_lload_n hX dX0_digestOn_7 rfl ?_
    refine zk_ldc2 hX dX0_digestOn_8 cnX0_23 ?_
    refine zk_N2l hX dX0_digestOn_11 kcX11_mix mnX0_45 smX11_mix rfl (s_X11_mix _ _) (Nat.le_of_ble_eq_true rfl) rfl ?_
    refine zk_lret hX hE rfl ⟨rfl, rfl⟩ dX0_digestOn_14 ⟨_, rfl, ?_⟩
    first
    | (refine ⟨?_, rfl⟩
       unfold kB
       rw [if_pos (B2.mp (by first | exact c4 | exact fun z => c4 z))]
       rfl)
    | (refine ⟨?_, rfl⟩
       unfold kB
       rw [if_neg (fun z => B2.mpr z (by first | exact c4 | exact Decidable.not_not.mp c4))]
       rfl)
def kU (w : zW) (l t : Nat) (h : Int64) : Int64 := mx h (w.1 (116 + l) t)
def kL (w : zW) (l : Nat) (h : Int64) : Int64 := zit (kU w l) 3 h
def kC (w : zW) (c : Nat) (h : Int64) : Int64 := mx (mx (mx h (w.1 124 c)) (w.1 125 c)) (w.1 126 c)
theorem s_X4_digestOn {G : zG} {w : zW} {nl nc : Nat} (hw : zWf w) (h8 : nl ≤ 8) (h24 : nc ≤ 24) (hK : w.1 114 0 = nI nl) (hC : w.1 114 2 = nI nc) (h : Int64) : zEl G mX4_digestOn [.ref 114, .long h] w (zit (kC w) nc (zit (kL w) nl h)) w := by
  refine zC_of (lo := [_, _, _, _, _]) kcX4_digestOn (Nat.le_of_ble_eq_true rfl) rfl (fun X hX hE => ?_)
  have l3 : ∀ (q : Int64), q = zit (kL w) nl h → ∀ m i (a4 : Value), i + m = nc → zk0 G X mX4_digestOn 48 [.ref 114, .long (zit (kC w) i q), .null, .int (nI i), a4] [] w := by
    intro q eq m
    induction m with
    | zero =>
      intro i a4 hi
      obtain rfl : i = nc := by omega
      refine zk_iload_n hX dX4_digestOn_48 rfl ?_
      refine zk_aload_n hX dX4_digestOn_49 rfl ?_
      refine zk_getI hX dX4_digestOn_50 flX4_42 k_114 z_114 ?_
      rw [hC]
      refine zk_icmp_ge (tgt := 94) hX dX4_digestOn_53 (by decide) (fun c53 => ?_) (fun c53 => ?_)
      rotate_left
      · exact absurd (nI_le (Nat.le_refl _) (by omega)) c53
      refine zk_lload_n hX dX4_digestOn_94 rfl ?_
      refine zk_lret hX hE rfl ⟨rfl, rfl⟩ dX4_digestOn_95 ⟨_, rfl, ?_⟩
      exact ⟨by rw [eq], rfl⟩
    | succ m ih =>
      intro i a4 hi
      refine zk_iload_n hX dX4_digestOn_48 rfl ?_
      refine zk_aload_n hX dX4_digestOn_49 rfl ?_
      refine zk_getI hX dX4_digestOn_50 flX4_42 k_114 z_114 ?_
      rw [hC]
      refine zk_icmp_ge (tgt := 94) hX dX4_digestOn_53 (by decide) (fun c53 => ?_) (fun c53 => ?_)
      · exact absurd c53 (nI_ge (by omega) (by omega))
      refine zk_lload_n hX dX4_digestOn_56 rfl ?_
      refine zk_aload_n hX dX4_digestOn_57 rfl ?_
      refine zk_getR hX dX4_digestOn_58 flX4_16 k_114 z_114 (hw _ _ (by decide) |>.trans r_114_3) ?_
      refine zk_iload_n hX dX4_digestOn_61 rfl ?_
      refine zk_ialdE hX dX4_digestOn_62 rfl k_124 z_124 (by first | assumption | omega) rfl ?_
      refine zk_i2l hX dX4_digestOn_63 ?_
      refine zk_N2l hX dX4_digestOn_64 kcX11_mix mnX4_79 smX11_mix rfl (s_X11_mix _ _) (Nat.le_of_ble_eq_true rfl) rfl ?_
      refine zk_aload_n hX dX4_digestOn_67 rfl ?_
      refine zk_getR hX dX4_digestOn_68 flX4_20 k_114 z_114 (hw _ _ (by decide) |>.trans r_114_4) ?_
      refine zk_iload_n hX dX4_digestOn_71 rfl ?_
      refine zk_ialdE hX dX4_digestOn_72 rfl k_125 z_125 (by first | assumption | omega) rfl ?_
      refine zk_i2l hX dX4_digestOn_73 ?_
      refine zk_N2l hX dX4_digestOn_74 kcX11_mix mnX4_79 smX11_mix rfl (s_X11_mix _ _) (Nat.le_of_ble_eq_true rfl) rfl ?_
      refine zk_aload_n hX dX4_digestOn_77 rfl ?_
      refine zk_getR hX dX4_digestOn_78 flX4_23 k_114 z_114 (hw _ _ (by decide) |>.trans r_114_5) ?_
      refine zk_iload_n hX dX4_digestOn_81 rfl ?_
      refine zk_ialdE hX dX4_digestOn_82 rfl k_126 z_126 (by first | assumption | omega) rfl ?_
      refine zk_i2l hX dX4_digestOn_83 ?_
      refine zk_N2l hX dX4_digestOn_84 kcX11_mix mnX4_79 smX11_mix rfl (s_X11_mix _ _) (Nat.le_of_ble_eq_true rfl) rfl ?_
      refine zk_lstore_n (lo' := [_, _, _, _, _]) hX dX4_digestOn_87 (Nat.le_of_ble_eq_true rfl) rfl rfl ?_
      refine zk_iinc (lo' := [_, _, _, _, _]) hX dX4_digestOn_88 rfl (by first | exact zinc _ | exact rfl) (Nat.le_of_ble_eq_true rfl) rfl rfl ?_
      refine zk_goto (tgt := 48) hX dX4_digestOn_91 (by decide) ?_
      exact ih (i + 1) _ (by omega)
  have l2 : ∀ l, l < nl → ∀ q : Int64, (∀ a4 : Value, zk0 G X mX4_digestOn 40 [.ref 114, .long (kL w l q), .null, .int (nI l), a4] [] w) → ∀ m i, i + m = 3 → zk0 G X mX4_digestOn 13 [.ref 114, .long (zit (kU w l) i q), .null, .int (nI l), .int (nI i)] [] w := by
    intro l hl q kk m
    induction m with
    | zero =>
      intro i hi
      obtain rfl : i = 3 := by omega
      refine zk_iload hX dX4_digestOn_13 rfl ?_
      refine zk_iconst (v := 3) hX dX4_digestOn_15 (by decide) ?_
      refine zk_icmp_ge (tgt := 40) hX dX4_digestOn_16 (by decide) (fun c16 => ?_) (fun c16 => ?_)
      rotate_left
      · exact absurd (by decide) c16
      exact kk _
    | succ m ih =>
      intro i hi
      refine zk_iload hX dX4_digestOn_13 rfl ?_
      refine zk_iconst (v := 3) hX dX4_digestOn_15 (by decide) ?_
      refine zk_icmp_ge (tgt := 40) hX dX4_digestOn_16 (by decide) (fun c16 => ?_) (fun c16 => ?_)
      · exact absurd c16 (nI_ge (b := 3) (by omega) (by decide))
      refine zk_lload_n hX dX4_digestOn_19 rfl ?_
      refine zk_aload_n hX dX4_digestOn_20 rfl ?_
      refine zk_getR hX dX4_digestOn_21 flX4_11 k_114 z_114 (hw _ _ (by decide) |>.trans r_114_1) ?_
      refine zk_iload_n hX dX4_digestOn_24 rfl ?_
      refine zk_weights hX hw dX4_digestOn_25 rfl (by first | assumption | omega) ?_
      refine zk_iload hX dX4_digestOn_26 rfl ?_
      refine zk_ialdE hX dX4_digestOn_28 rfl (zWrk (by first | assumption | omega)) (zWrz _ (by first | assumption | omega)) (by first | assumption | omega) rfl ?_
      refine zk_i2l hX dX4_digestOn_29 ?_
      refine zk_N2l hX dX4_digestOn_30 kcX11_mix mnX4_79 smX11_mix rfl (s_X11_mix _ _) (Nat.le_of_ble_eq_true rfl) rfl ?_
      refine zk_lstore_n (lo' := [_, _, _, _, _]) hX dX4_digestOn_33 (Nat.le_of_ble_eq_true rfl) rfl rfl ?_
      refine zk_iinc (lo' := [_, _, _, _, _]) hX dX4_digestOn_34 rfl (by first | exact zinc _ | exact rfl) (Nat.le_of_ble_eq_true rfl) rfl rfl ?_
      refine zk_goto (tgt := 13) hX dX4_digestOn_37 (by decide) ?_
      exact ih (i + 1) (by omega)
  have l1 : ∀ m i (a4 : Value), i + m = nl → zk0 G X mX4_digestOn 2 [.ref 114, .long (zit (kL w) i h), .null, .int (nI i), a4] [] w := by
    intro m
    induction m with
    | zero =>
      intro i a4 hi
      obtain rfl : i = nl := by omega
      refine zk_iload_n hX dX4_digestOn_2 rfl ?_
      refine zk_aload_n hX dX4_digestOn_3 rfl ?_
      refine zk_getI hX dX4_digestOn_4 flX4_38 k_114 z_114 ?_
      rw [hK]
      refine zk_icmp_ge (tgt := 46) hX dX4_digestOn_7 (by decide) (fun c7 => ?_) (fun c7 => ?_)
      rotate_left
      · exact absurd (nI_le (Nat.le_refl _) (by omega)) c7
      refine zk_iconst (v := 0) hX dX4_digestOn_46 (by decide) ?_
      refine zk_istore_n (lo' := [_, _, _, _, _]) hX dX4_digestOn_47 (Nat.le_of_ble_eq_true rfl) rfl rfl ?_
      exact l3 _ rfl nc 0 _ (by omega)
    | succ m ih =>
      intro i a4 hi
      have nx : ∀ a4 : Value, zk0 G X mX4_digestOn 40 [.ref 114, .long (kL w i (zit (kL w) i h)), .null, .int (nI i), a4] [] w := by
        intro a4
        refine zk_iinc (lo' := [_, _, _, _, _]) hX dX4_digestOn_40 rfl (by first | exact zinc _ | exact rfl) (Nat.le_of_ble_eq_true rfl) rfl rfl ?_
        refine zk_goto (tgt := 2) hX dX4_digestOn_43 (by decide) ?_
        exact ih (i + 1) _ (by omega)
      refine zk_iload_n hX dX4_digestOn_2 rfl ?_
      refine zk_aload_n hX dX4_digestOn_3 rfl ?_
      refine zk_getI hX dX4_digestOn_4 flX4_38 k_114 z_114 ?_
      rw [hK]
      refine zk_icmp_ge (tgt := 46) hX dX4_digestOn_7 (by decide) (fun c7 => ?_) (fun c7 => ?_)
      · exact absurd c7 (nI_ge (by omega) (by omega))
      refine zk_iconst (v := 0) hX dX4_digestOn_10 (by decide) ?_
      refine zk_istore (lo' := [_, _, _, _, _]) hX dX4_digestOn_11 (Nat.le_of_ble_eq_true rfl) rfl rfl ?_
      exact l2 i (by omega) _ nx 3 0 (by omega)
  refine zk_iconst (v := 0) hX dX4_digestOn_0 (by decide) ?_
  refine zk_istore_n (lo' := [_, _, _, _, _]) hX dX4_digestOn_1 (Nat.le_of_ble_eq_true rfl) rfl rfl ?_
  exact l1 nl 0 _ (by omega)
/-- a row's size and numbers -/
def kS (f : Nat → Int32) (x : Int32) (h : Int64) : Int64 := zit (fun i h => mx h (f i)) x.toNatClampNeg (mx h x)
theorem zsz_n {x : Int32} {L : Nat} (hL : L < 5000) (h : zSz x L) : (x = -1 ∧ x.toNatClampNeg = 0) ∨ ∃ m, m ≤ L ∧ x = nI m ∧ x.toNatClampNeg = m := by
  rcases h with rfl | ⟨m, hm, rfl⟩
  · exact Or.inl ⟨rfl, by decide⟩
  · exact Or.inr ⟨m, hm, rfl, nI_clamp (by omega)⟩
theorem s_X8_digestOn {G : zG} {w : zW} {a L : Nat} (hA : zRw a L) (hw : zWf w) (hL : L < 5000) (hS : zSz (w.1 a 0) L) (h : Int64) : zEl G mX8_digestOn [.ref a, .long h] w (kS (fun i => w.1 (a + 1) i) (w.1 a 0) h) w := by
  have hSz := hS
  have hb := hA.2
  refine zC_of (lo := [_, _, _, _]) kcX8_digestOn (Nat.le_of_ble_eq_true rfl) rfl (fun X hX hE => ?_)
  rcases zsz_n hL hS with ⟨e1, e2⟩ | ⟨n, hn, e1, e2⟩
  · unfold kS at hE
    rw [e2] at hE
    refine zk_lload_n hX dX8_digestOn_0 rfl ?_
    refine zk_aload_n hX dX8_digestOn_1 rfl ?_
    refine zk_getI hX dX8_digestOn_2 flX8_11 (zRw_k0 hA) hA.1.2.1 ?_
    refine zk_i2l hX dX8_digestOn_5 ?_
    refine zk_N2l hX dX8_digestOn_6 kcX11_mix mnX8_61 smX11_mix rfl (s_X11_mix _ _) (Nat.le_of_ble_eq_true rfl) rfl ?_
    refine zk_lstore_n (lo' := [_, _, _, _]) hX dX8_digestOn_9 (Nat.le_of_ble_eq_true rfl) rfl rfl ?_
    refine zk_iconst (v := 0) hX dX8_digestOn_10 (by decide) ?_
    refine zk_istore_n (lo' := [_, _, _, _]) hX dX8_digestOn_11 (Nat.le_of_ble_eq_true rfl) rfl rfl ?_
    refine zk_iload_n hX dX8_digestOn_12 rfl ?_
    refine zk_aload_n hX dX8_digestOn_13 rfl ?_
    refine zk_getI hX dX8_digestOn_14 flX8_11 (zRw_k0 hA) hA.1.2.1 ?_
    refine zk_icmp_ge (tgt := 37) hX dX8_digestOn_17 (by decide) (fun c17 => ?_) (fun c17 => ?_)
    rotate_left
    · exact absurd (by rw [e1]; decide) c17
    refine zk_lload_n hX dX8_digestOn_37 rfl ?_
    refine zk_lret hX hE rfl ⟨rfl, rfl⟩ dX8_digestOn_38 ⟨_, rfl, ?_⟩
    exact ⟨rfl, rfl⟩
  · unfold kS at hE
    rw [e2] at hE
    have loop : ∀ m i, i + m = n → zk0 G X mX8_digestOn 12 [.ref a, .long (zit (fun i h => mx h (w.1 (a + 1) i)) i (mx h (w.1 a 0))), .null, .int (nI i)] [] w := by
      intro m
      induction m with
      | zero =>
        intro i hi
        obtain rfl : i = n := by omega
        refine zk_iload_n hX dX8_digestOn_12 rfl ?_
        refine zk_aload_n hX dX8_digestOn_13 rfl ?_
        refine zk_getI hX dX8_digestOn_14 flX8_11 (zRw_k0 hA) hA.1.2.1 ?_
        refine zk_icmp_ge (tgt := 37) hX dX8_digestOn_17 (by decide) (fun c17 => ?_) (fun c17 => ?_)
        rotate_left
        · exact absurd (by rw [e1]; exact nI_le (Nat.le_refl _) (by omega)) c17
        refine zk_lload_n hX dX8_digestOn_37 rfl ?_
        refine zk_lret hX hE rfl ⟨rfl, rfl⟩ dX8_digestOn_38 ⟨_, rfl, ?_⟩
        exact ⟨rfl, rfl⟩
      | succ m ih =>
        intro i hi
        have eg : zRget w a (nI i) = w.1 (a + 1) i := by
          unfold zRget
          rw [e1, if_pos ⟨nI_pos' (by omega), nI_lt (by omega) (by omega)⟩, nI_clamp (by omega)]
        refine zk_iload_n hX dX8_digestOn_12 rfl ?_
        refine zk_aload_n hX dX8_digestOn_13 rfl ?_
        refine zk_getI hX dX8_digestOn_14 flX8_11 (zRw_k0 hA) hA.1.2.1 ?_
        refine zk_icmp_ge (tgt := 37) hX dX8_digestOn_17 (by decide) (fun c17 => ?_) (fun c17 => ?_)
        · exact absurd c17 (by rw [e1]; exact nI_ge (by omega) (by omega))
        refine zk_lload_n hX dX8_digestOn_20 rfl ?_
        refine zk_aload_n hX dX8_digestOn_21 rfl ?_
        refine zk_iload_n hX dX8_digestOn_22 rfl ?_
        refine zk_V1i hX dX8_digestOn_23 kcX8_get mlX8_39 viX8_get rfl (zRw_k0 hA) hA.1.2.1 (s_X8_get hA hw hS _) (Nat.le_of_ble_eq_true rfl) rfl ?_
        rw [eg]
        refine zk_i2l hX dX8_digestOn_26 ?_
        refine zk_N2l hX dX8_digestOn_27 kcX11_mix mnX8_61 smX11_mix rfl (s_X11_mix _ _) (Nat.le_of_ble_eq_true rfl) rfl ?_
        refine zk_lstore_n (lo' := [_, _, _, _]) hX dX8_digestOn_30 (Nat.le_of_ble_eq_true rfl) rfl rfl ?_
        refine zk_iinc (lo' := [_, _, _, _]) hX dX8_digestOn_31 rfl (by first | exact zinc _ | exact rfl) (Nat.le_of_ble_eq_true rfl) rfl rfl ?_
        refine zk_goto (tgt := 12) hX dX8_digestOn_34 (by decide) ?_
        exact ih (i + 1) (by omega)
    refine zk_lload_n hX dX8_digestOn_0 rfl ?_
    refine zk_aload_n hX dX8_digestOn_1 rfl ?_
    refine zk_getI hX dX8_digestOn_2 flX8_11 (zRw_k0 hA) hA.1.2.1 ?_
    refine zk_i2l hX dX8_digestOn_5 ?_
    refine zk_N2l hX dX8_digestOn_6 kcX11_mix mnX8_61 smX11_mix rfl (s_X11_mix _ _) (Nat.le_of_ble_eq_true rfl) rfl ?_
    refine zk_lstore_n (lo' := [_, _, _, _]) hX dX8_digestOn_9 (Nat.le_of_ble_eq_true rfl) rfl rfl ?_
    refine zk_iconst (v := 0) hX dX8_digestOn_10 (by decide) ?_
    refine zk_istore_n (lo' := [_, _, _, _]) hX dX8_digestOn_11 (Nat.le_of_ble_eq_true rfl) rfl rfl ?_
    exact loop n 0 (by omega)
