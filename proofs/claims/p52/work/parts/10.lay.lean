theorem k_0 : 0 < zN := Nat.le_of_ble_eq_true rfl
theorem z_0 : zsh 0 = (0, 11, 0) := by decide +kernel
theorem r_0_0 : zref 0 0 = some 1 := by decide +kernel
theorem r_0_1 : zref 0 1 = some 3 := by decide +kernel
theorem r_0_2 : zref 0 2 = some 16 := by decide +kernel
theorem r_0_3 : zref 0 3 = some 25 := by decide +kernel
theorem r_0_4 : zref 0 4 = some 26 := by decide +kernel
theorem r_0_5 : zref 0 5 = some 35 := by decide +kernel
theorem r_0_6 : zref 0 6 = some 44 := by decide +kernel
theorem r_0_7 : zref 0 7 = some 45 := by decide +kernel
theorem r_0_9 : zref 0 9 = some 46 := by decide +kernel
theorem r_0_11 : zref 0 11 = some 95 := by decide +kernel
theorem r_0_12 : zref 0 12 = some 114 := by decide +kernel
theorem r_0_13 : zref 0 13 = some 131 := by decide +kernel
theorem r_0_14 : zref 0 14 = some 147 := by decide +kernel
theorem r_0_15 : zref 0 15 = some 163 := by decide +kernel
theorem r_0_16 : zref 0 16 = some 164 := by decide +kernel
theorem r_0_17 : zref 0 17 = some 165 := by decide +kernel
theorem k_1 : 1 < zN := Nat.le_of_ble_eq_true rfl
theorem z_1 : zsh 1 = (0, 9, 0) := by decide +kernel
theorem r_1_4 : zref 1 4 = some 2 := by decide +kernel
theorem k_2 : 2 < zN := Nat.le_of_ble_eq_true rfl
theorem z_2 : zsh 2 = (1, 0, 6) := by decide +kernel
theorem k_3 : 3 < zN := Nat.le_of_ble_eq_true rfl
theorem z_3 : zsh 3 = (3, 4, 6) := by decide +kernel
theorem k_16 : 16 < zN := Nat.le_of_ble_eq_true rfl
theorem z_16 : zsh 16 = (3, 4, 4) := by decide +kernel
theorem k_25 : 25 < zN := Nat.le_of_ble_eq_true rfl
theorem z_25 : zsh 25 = (0, 7, 0) := by decide +kernel
theorem k_26 : 26 < zN := Nat.le_of_ble_eq_true rfl
theorem z_26 : zsh 26 = (0, 2, 0) := by decide +kernel
theorem r_26_3 : zref 26 3 = some 27 := by decide +kernel
theorem r_26_4 : zref 26 4 = some 28 := by decide +kernel
theorem r_26_5 : zref 26 5 = some 29 := by decide +kernel
theorem r_26_6 : zref 26 6 = some 30 := by decide +kernel
theorem r_26_7 : zref 26 7 = some 31 := by decide +kernel
theorem r_26_9 : zref 26 9 = some 33 := by decide +kernel
theorem r_26_10 : zref 26 10 = some 34 := by decide +kernel
theorem k_27 : 27 < zN := Nat.le_of_ble_eq_true rfl
theorem z_27 : zsh 27 = (1, 0, 2) := by decide +kernel
theorem k_28 : 28 < zN := Nat.le_of_ble_eq_true rfl
theorem z_28 : zsh 28 = (1, 0, 6) := by decide +kernel
theorem k_29 : 29 < zN := Nat.le_of_ble_eq_true rfl
theorem z_29 : zsh 29 = (1, 0, 6) := by decide +kernel
theorem k_30 : 30 < zN := Nat.le_of_ble_eq_true rfl
theorem z_30 : zsh 30 = (1, 0, 6) := by decide +kernel
theorem k_31 : 31 < zN := Nat.le_of_ble_eq_true rfl
theorem z_31 : zsh 31 = (1, 0, 6) := by decide +kernel
theorem k_33 : 33 < zN := Nat.le_of_ble_eq_true rfl
theorem z_33 : zsh 33 = (1, 0, 6) := by decide +kernel
theorem k_34 : 34 < zN := Nat.le_of_ble_eq_true rfl
theorem z_34 : zsh 34 = (1, 0, 6) := by decide +kernel
theorem k_44 : 44 < zN := Nat.le_of_ble_eq_true rfl
theorem z_44 : zsh 44 = (0, 3, 0) := by decide +kernel
theorem k_45 : 45 < zN := Nat.le_of_ble_eq_true rfl
theorem z_45 : zsh 45 = (0, 3, 0) := by decide +kernel
theorem k_46 : 46 < zN := Nat.le_of_ble_eq_true rfl
theorem z_46 : zsh 46 = (3, 5, 12) := by decide +kernel
theorem k_95 : 95 < zN := Nat.le_of_ble_eq_true rfl
theorem z_95 : zsh 95 = (3, 6, 6) := by decide +kernel
theorem k_114 : 114 < zN := Nat.le_of_ble_eq_true rfl
theorem z_114 : zsh 114 = (0, 4, 0) := by decide +kernel
theorem r_114_3 : zref 114 3 = some 124 := by decide +kernel
theorem r_114_4 : zref 114 4 = some 125 := by decide +kernel
theorem r_114_5 : zref 114 5 = some 126 := by decide +kernel
theorem k_124 : 124 < zN := Nat.le_of_ble_eq_true rfl
theorem z_124 : zsh 124 = (1, 0, 24) := by decide +kernel
theorem k_125 : 125 < zN := Nat.le_of_ble_eq_true rfl
theorem z_125 : zsh 125 = (1, 0, 24) := by decide +kernel
theorem k_126 : 126 < zN := Nat.le_of_ble_eq_true rfl
theorem z_126 : zsh 126 = (1, 0, 24) := by decide +kernel
theorem k_131 : 131 < zN := Nat.le_of_ble_eq_true rfl
theorem z_131 : zsh 131 = (0, 6, 0) := by decide +kernel
theorem r_131_2 : zref 131 2 = some 132 := by decide +kernel
theorem r_131_3 : zref 131 3 = some 133 := by decide +kernel
theorem r_131_4 : zref 131 4 = some 134 := by decide +kernel
theorem r_131_5 : zref 131 5 = some 135 := by decide +kernel
theorem r_131_6 : zref 131 6 = some 136 := by decide +kernel
theorem r_131_7 : zref 131 7 = some 137 := by decide +kernel
theorem r_131_8 : zref 131 8 = some 138 := by decide +kernel
theorem r_131_9 : zref 131 9 = some 139 := by decide +kernel
theorem r_131_10 : zref 131 10 = some 140 := by decide +kernel
theorem r_131_11 : zref 131 11 = some 141 := by decide +kernel
theorem r_131_12 : zref 131 12 = some 142 := by decide +kernel
theorem r_131_13 : zref 131 13 = some 143 := by decide +kernel
theorem r_131_14 : zref 131 14 = some 144 := by decide +kernel
theorem r_131_15 : zref 131 15 = some 145 := by decide +kernel
theorem r_131_16 : zref 131 16 = some 146 := by decide +kernel
theorem k_132 : 132 < zN := Nat.le_of_ble_eq_true rfl
theorem z_132 : zsh 132 = (1, 0, 6) := by decide +kernel
theorem k_133 : 133 < zN := Nat.le_of_ble_eq_true rfl
theorem z_133 : zsh 133 = (1, 0, 6) := by decide +kernel
theorem k_134 : 134 < zN := Nat.le_of_ble_eq_true rfl
theorem z_134 : zsh 134 = (1, 1, 4096) := by decide +kernel
theorem k_135 : 135 < zN := Nat.le_of_ble_eq_true rfl
theorem z_135 : zsh 135 = (2, 3, 4096) := by decide +kernel
theorem k_136 : 136 < zN := Nat.le_of_ble_eq_true rfl
theorem z_136 : zsh 136 = (2, 3, 4096) := by decide +kernel
theorem k_137 : 137 < zN := Nat.le_of_ble_eq_true rfl
theorem z_137 : zsh 137 = (2, 3, 4096) := by decide +kernel
theorem k_138 : 138 < zN := Nat.le_of_ble_eq_true rfl
theorem z_138 : zsh 138 = (2, 3, 4096) := by decide +kernel
theorem k_139 : 139 < zN := Nat.le_of_ble_eq_true rfl
theorem z_139 : zsh 139 = (1, 0, 6) := by decide +kernel
theorem k_140 : 140 < zN := Nat.le_of_ble_eq_true rfl
theorem z_140 : zsh 140 = (1, 1, 750) := by decide +kernel
theorem k_141 : 141 < zN := Nat.le_of_ble_eq_true rfl
theorem z_141 : zsh 141 = (2, 3, 750) := by decide +kernel
theorem k_142 : 142 < zN := Nat.le_of_ble_eq_true rfl
theorem z_142 : zsh 142 = (2, 3, 750) := by decide +kernel
theorem k_143 : 143 < zN := Nat.le_of_ble_eq_true rfl
theorem z_143 : zsh 143 = (2, 3, 125) := by decide +kernel
theorem k_144 : 144 < zN := Nat.le_of_ble_eq_true rfl
theorem z_144 : zsh 144 = (2, 3, 125) := by decide +kernel
theorem k_145 : 145 < zN := Nat.le_of_ble_eq_true rfl
theorem z_145 : zsh 145 = (1, 0, 6) := by decide +kernel
theorem k_146 : 146 < zN := Nat.le_of_ble_eq_true rfl
theorem z_146 : zsh 146 = (0, 1, 0) := by decide +kernel
theorem k_147 : 147 < zN := Nat.le_of_ble_eq_true rfl
theorem z_147 : zsh 147 = (0, 10, 0) := by decide +kernel
theorem r_147_0 : zref 147 0 = some 148 := by decide +kernel
theorem r_147_1 : zref 147 1 = some 149 := by decide +kernel
theorem k_148 : 148 < zN := Nat.le_of_ble_eq_true rfl
theorem z_148 : zsh 148 = (1, 0, 4096) := by decide +kernel
theorem k_149 : 149 < zN := Nat.le_of_ble_eq_true rfl
theorem z_149 : zsh 149 = (1, 0, 4096) := by decide +kernel
theorem k_163 : 163 < zN := Nat.le_of_ble_eq_true rfl
theorem z_163 : zsh 163 = (0, 1, 0) := by decide +kernel
theorem k_164 : 164 < zN := Nat.le_of_ble_eq_true rfl
theorem z_164 : zsh 164 = (0, 1, 0) := by decide +kernel
theorem k_165 : 165 < zN := Nat.le_of_ble_eq_true rfl
theorem z_165 : zsh 165 = (0, 1, 0) := by decide +kernel
section ZA
variable {G : zG} {X : zX} {M : zM} {pc : Nat} {lo st : List Value} {w : zW}
theorem zk_if_eqB (hX : zH G X M) {p : Prop} [Decidable p] {off : Int} {tgt : Nat} (d : decode M.2.1 pc = .ok (.ifCond .eq off, 3)) (ht : (pc : Int) + off = (tgt : Int)) (kt : ¬ p → zk0 G X M tgt lo st w) (kf : p → zk0 G X M (pc + 3) lo st w) : zk0 G X M pc lo (.int (zb p) :: st) w :=
  zk_if_eq hX d ht (fun h => kt (zb_0.mp h)) (fun h => kf (Decidable.not_not.mp (fun q => h (zb_0.mpr q))))
theorem zk_if_neB (hX : zH G X M) {p : Prop} [Decidable p] {off : Int} {tgt : Nat} (d : decode M.2.1 pc = .ok (.ifCond .ne off, 3)) (ht : (pc : Int) + off = (tgt : Int)) (kt : p → zk0 G X M tgt lo st w) (kf : ¬ p → zk0 G X M (pc + 3) lo st w) : zk0 G X M pc lo (.int (zb p) :: st) w :=
  zk_if_ne hX d ht (fun h => kt (Decidable.not_not.mp (fun q => h (zb_0.mpr q)))) (fun h => kf (zb_0.mp h))
theorem zk_rows (hX : zH G X M) (hw : zWf w) {j : Nat} {i : Int32} (d : decode M.2.1 pc = .ok (.aaload, 1)) (e : i = nI j) (hj : j < 6) (kk : zk0 G X M (pc + 1) lo (.ref (4 + 2 * j) :: st) w) : zk0 G X M pc lo (.int i :: .ref 3 :: st) w := by
  subst e
  exact zk_aaldN hX d k_3 z_3 rfl rfl hj rfl ((hw 3 j (by decide)).trans ((by decide +kernel : ∀ j, j < 6 → zref 3 j = some (4 + 2 * j)) j hj)) kk
theorem zk_texts (hX : zH G X M) (hw : zWf w) {j : Nat} {i : Int32} (d : decode M.2.1 pc = .ok (.aaload, 1)) (e : i = nI j) (hj : j < 4) (kk : zk0 G X M (pc + 1) lo (.ref (17 + 2 * j) :: st) w) : zk0 G X M pc lo (.int i :: .ref 16 :: st) w := by
  subst e
  exact zk_aaldN hX d k_16 z_16 rfl rfl hj rfl ((hw 16 j (by decide)).trans ((by decide +kernel : ∀ j, j < 4 → zref 16 j = some (17 + 2 * j)) j hj)) kk
theorem zk_poses (hX : zH G X M) (hw : zWf w) {j : Nat} {i : Int32} (d : decode M.2.1 pc = .ok (.aaload, 1)) (e : i = nI j) (hj : j < 12) (kk : zk0 G X M (pc + 1) lo (.ref (47 + 4 * j) :: st) w) : zk0 G X M pc lo (.int i :: .ref 46 :: st) w := by
  subst e
  exact zk_aaldN hX d k_46 z_46 rfl rfl hj rfl ((hw 46 j (by decide)).trans ((by decide +kernel : ∀ j, j < 12 → zref 46 j = some (47 + 4 * j)) j hj)) kk
theorem zk_beasts (hX : zH G X M) (hw : zWf w) {j : Nat} {i : Int32} (d : decode M.2.1 pc = .ok (.aaload, 1)) (e : i = nI j) (hj : j < 6) (kk : zk0 G X M (pc + 1) lo (.ref (96 + 3 * j) :: st) w) : zk0 G X M pc lo (.int i :: .ref 95 :: st) w := by
  subst e
  exact zk_aaldN hX d k_95 z_95 rfl rfl hj rfl ((hw 95 j (by decide)).trans ((by decide +kernel : ∀ j, j < 6 → zref 95 j = some (96 + 3 * j)) j hj)) kk
end ZA

theorem zC_of {G : zG} {M : zM} {n : Nat} {w : zW} {args lo : List Value} {n' : Nat} {Q : Option Value → zW → Prop} {a : Nat} (hy : zCal M a) (hN : (args.map fun v => v.category).sum ≤ M.2.2.1) (hlo : zlo args ++ List.replicate (M.2.2.1 - (zlo args).length) .null = lo)
    (body : ∀ X : zX, zH G X M → zR G X M n' Q → zk G X M n 0 0 0 lo [] w) : zC G M args n w n' Q := by
  refine zC.of hy hN (fun X hX hE => zk_lo (lo' := lo) (fun k v h hv => ?_) (body X hX hE))
  subst hlo
  by_cases hk : k < (zlo args).length
  · rwa [List.getElem?_append_left hk] at h
  · rw [List.getElem?_append_right (by omega), List.getElem?_replicate] at h
    split at h
    · cases h
      exact absurd rfl hv
    · cases h

