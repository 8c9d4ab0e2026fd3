theorem zsub_le {a b T : Nat} (ha : a < 1000) (hb : b < 1000) (hT : T < 1000) : nI a - nI T ≤ nI b - nI T ↔ a ≤ b := by
  have a0 : 0 ≤ nI a := nI_pos' (by omega)
  have b0 : 0 ≤ nI b := nI_pos' (by omega)
  have t0 : 0 ≤ nI T := nI_pos' (by omega)
  have a1 : nI a ≤ 1000 := nI_le (b := 1000) (by omega) (by decide)
  have b1 : nI b ≤ 1000 := nI_le (b := 1000) (by omega) (by decide)
  have t1 : nI T ≤ 1000 := nI_le (b := 1000) (by omega) (by decide)
  rw [← nI_leI (a := a) (b := b) (by omega) (by omega)]
  constructor <;> intro h <;> grind
theorem zgr_n {a b : Nat} (ha : a < 1000) (hb : b < 1000) : (if nI a ≤ nI b then nI b else nI a) = nI (max a b) := by
  by_cases h : a ≤ b
  · rw [if_pos (nI_le h (by omega)), Nat.max_eq_right h]
  · rw [if_neg (fun q => h (nI_leD q)), Nat.max_eq_left (by omega)]
theorem zgr_s {a b T : Nat} (ha : a < 1000) (hb : b < 1000) (hT : T < 1000) : (if nI a - nI T ≤ nI b - nI T then nI b - nI T else nI a - nI T) = nI (max a b) - nI T := by
  by_cases h : a ≤ b
  · rw [if_pos ((zsub_le ha hb hT).mpr h), Nat.max_eq_right h]
  · rw [if_neg (fun q => h ((zsub_le ha hb hT).mp q)), Nat.max_eq_left (by omega)]
def zk3 (wr ld T : Nat) : Int32 := if 0 < wr then 3 else if T < ld then 2 else 1
theorem zkd_k3 {D : zD} {t : Nat → Int32} {T : Nat} : zkd D t (-1) T = zk3 (zwrL zno (zP D t (-1))) (zldo D t (-1) (dJ D)) T := rfl
theorem zk3_mx {a b c d T : Nat} : (if zk3 a c T ≤ zk3 b d T then zk3 b d T else zk3 a c T) = zk3 (max a b) (max c d) T := by
  have m1 : (0 < max a b) ↔ (0 < a ∨ 0 < b) := by omega
  have m2 : (T < max c d) ↔ (T < c ∨ T < d) := by omega
  unfold zk3
  simp only [m1, m2]
  by_cases h1 : 0 < a <;> by_cases h2 : 0 < b <;> by_cases h3 : T < c <;> by_cases h4 : T < d <;> simp only [h1, h2, h3, h4, if_true, if_false, or_true, true_or, or_false, or_self] <;> decide
theorem zk3_1 {wr ld T : Nat} : (if zk3 wr ld T = 1 then 4 else zk3 wr ld T) = if 0 < wr then 3 else if T < ld then 2 else (4 : Int32) := by
  unfold zk3
  by_cases h1 : 0 < wr
  · rw [if_pos h1, if_pos h1]
    decide
  · rw [if_neg h1, if_neg h1]
    by_cases h2 : T < ld
    · rw [if_pos h2, if_pos h2]
      decide
    · rw [if_neg h2, if_neg h2]
      decide
/-- the model's pose, its kind found: write it -/
def mFin (w w' : zW) (n : Nat) (kd j wr ab : Int32) : Prop := zFr [183, 185] [] [2, 33] w w' ∧ w'.1 166 33 = nI (n + 1) ∧ w'.1 166 2 = kd ∧ (w'.1 183 (3 * n) = kd ∧ w'.1 183 (3 * n + 1) = j ∧ w'.1 183 (3 * n + 2) = (if kd = 3 then wr else ab) ∧ ∀ q, q < 3 * n → w'.1 183 q = w.1 183 q) ∧ (∀ y, y < 10 → w'.1 185 (10 * n + y) = 0) ∧ ∀ q, q < 10 * n → w'.1 185 q = w.1 185 q
theorem s_X12_pose_306 {G : zG} {X : zX} {Q : Int32 → zW → Prop} {w : zW} {r n : Nat} {j kd wr ab v3 : Int32} (hX : zH G X mX12_pose) (hE : zR G X mX12_pose zN (fun v w1 => ∃ r, v = some (.int r) ∧ Q r w1)) (hw : zWf w) (hn : n < 12) (hP : w.1 166 33 = nI n) (hQ : ∀ w', mFin w w' n kd j wr ab → Q (nI n) w') : zk0 G X mX12_pose 306 [.ref 166, .int (nI r), .int j, .int v3, .int (nI n), .int kd, .int wr, .int ab, .null] [] w := by
  have loop : ∀ z i w1, i + z = 10 → zFr [183, 185] [] [] w w1 → (w1.1 183 (3 * n) = kd ∧ w1.1 183 (3 * n + 1) = j ∧ w1.1 183 (3 * n + 2) = (if kd = 3 then wr else ab) ∧ ∀ q, q < 3 * n → w1.1 183 q = w.1 183 q) → (∀ y, y < i → w1.1 185 (10 * n + y) = 0) → (∀ q, q < 10 * n → w1.1 185 q = w.1 185 q) → zk0 G X mX12_pose 356 [.ref 166, .int (nI r), .int j, .int v3, .int (nI n), .int kd, .int wr, .int ab, .int (nI i)] [] w1 := by
    intro z
    induction z with
    | zero =>
      intro i w1 hi hF g1 g2 g3
      obtain rfl : i = 10 := by omega
      have hw1 := zFr_wf hF hw
      refine zk_iload hX dX12_pose_356 rfl ?_
      refine zk_bipush (v := 10) hX dX12_pose_358 (by decide) ?_
      refine zk_icmp_ge (tgt := 383) hX dX12_pose_360 (by decide) (fun c360 => ?_) (fun c360 => ?_)
      rotate_left
      · exact absurd (nI_le (a := 10) (by omega) (by omega)) c360
      refine zk_aload_n hX dX12_pose_383 rfl ?_
      refine zk_dup hX dX12_pose_384 rfl ?_
      refine zk_getI hX dX12_pose_385 flX12_202 k_166 z_166 ?_
      rw [hF.2.2.2 33 (by decide), hP]
      refine zk_iconst (v := 1) hX dX12_pose_388 (by decide) ?_
      refine zk_iadd hX dX12_pose_389 ?_
      rw [nI_1]
      refine zk_putI hX dX12_pose_390 plX12_202 (fun h => by cases h) k_166 z_166 rfl rfl ?_
      refine zk_aload_n hX dX12_pose_393 rfl ?_
      refine zk_iload hX dX12_pose_394 rfl ?_
      refine zk_iload hX dX12_pose_396 rfl ?_
      refine zk_V2i hX dX12_pose_398 kcX12_tells mlX12_153 viX12_tells rfl k_166 z_166 (s_X12_tells _ _) (Nat.le_of_ble_eq_true rfl) rfl ?_
      refine zk_iret hX hE rfl ⟨rfl, rfl⟩ dX12_pose_401 ⟨_, rfl, ?_⟩
      refine hQ _ ⟨zFr_t (zFr_s hF (by decide)) (zFr_t (zFr_m (by decide)) (zFr_m (by decide))), ?_, ?_, ?_, fun y hy => ?_, fun q hq => ?_⟩
      · rw [zsi_1, if_neg (by omega), zsi_1, if_pos ⟨rfl, rfl⟩]
      · rw [zsi_1, if_pos ⟨rfl, rfl⟩]
      · rw [zsi_o (by decide), zsi_o (by decide)]
        exact g1
      · rw [zsi_o (by decide), zsi_o (by decide)]
        exact g2 y hy
      · rw [zsi_o (by decide), zsi_o (by decide)]
        exact g3 q hq
    | succ z ih =>
      intro i w1 hi hF g1 g2 g3
      have hw1 := zFr_wf hF hw
      refine zk_iload hX dX12_pose_356 rfl ?_
      refine zk_bipush (v := 10) hX dX12_pose_358 (by decide) ?_
      refine zk_icmp_ge (tgt := 383) hX dX12_pose_360 (by decide) (fun c360 => ?_) (fun c360 => ?_)
      · exact absurd c360 (nI_ge (b := 10) (by omega) (by decide))
      refine zk_aload_n hX dX12_pose_363 rfl ?_
      refine zk_getR hX dX12_pose_364 flX12_65 k_166 z_166 (hw1 _ _ (by decide) |>.trans r_166_36) ?_
      refine zk_bipush (v := 10) hX dX12_pose_367 (by decide) ?_
      refine zk_iload hX dX12_pose_369 rfl ?_
      refine zk_imul hX dX12_pose_371 ?_
      refine zk_iload hX dX12_pose_372 rfl ?_
      refine zk_iadd hX dX12_pose_374 ?_
      refine zk_iconst (v := 0) hX dX12_pose_375 (by decide) ?_
      refine zk_iastE hX dX12_pose_376 (nI_addE (nI_mulE (nI_k 10 rfl) rfl) rfl) k_185 z_185 (by first | assumption | omega) rfl ?_
      refine zk_iinc (lo' := [_, _, _, _, _, _, _, _, _]) hX dX12_pose_377 rfl (by first | exact zinc _ | exact rfl) (Nat.le_of_ble_eq_true rfl) rfl rfl ?_
      refine zk_goto (tgt := 356) hX dX12_pose_380 (by decide) ?_
      refine ih (i + 1) _ (by omega) (zFr_t hF (zFr_i (by decide) (by decide))) ?_ (fun y hy => ?_) (fun q hq => ?_)
      · rw [zsi_o (by decide)]
        exact g1
      · rw [zsi_1]
        by_cases e : y = i
        · subst e
          rw [if_pos ⟨rfl, rfl⟩]
        · rw [if_neg (by omega)]
          exact g2 y (by omega)
      · rw [zsi_1, if_neg (by omega)]
        exact g3 q hq
  refine zk_aload_n hX dX12_pose_306 rfl ?_
  refine zk_getR hX dX12_pose_307 flX12_59 k_166 z_166 (hw _ _ (by decide) |>.trans r_166_34) ?_
  refine zk_iconst (v := 3) hX dX12_pose_310 (by decide) ?_
  refine zk_iload hX dX12_pose_311 rfl ?_
  refine zk_imul hX dX12_pose_313 ?_
  refine zk_iload hX dX12_pose_314 rfl ?_
  refine zk_iastE hX dX12_pose_316 (nI_mulE (nI_k 3 rfl) rfl) k_183 z_183 (by first | assumption | omega) rfl ?_
  refine zk_aload_n hX dX12_pose_317 rfl ?_
  refine zk_getR hX dX12_pose_318 flX12_59 k_166 z_166 (hw _ _ (by decide) |>.trans r_166_34) ?_
  refine zk_iconst (v := 3) hX dX12_pose_321 (by decide) ?_
  refine zk_iload hX dX12_pose_322 rfl ?_
  refine zk_imul hX dX12_pose_324 ?_
  refine zk_iconst (v := 1) hX dX12_pose_325 (by decide) ?_
  refine zk_iadd hX dX12_pose_326 ?_
  refine zk_iload_n hX dX12_pose_327 rfl ?_
  refine zk_iastE hX dX12_pose_328 (nI_addE (nI_mulE (nI_k 3 rfl) rfl) (nI_k 1 rfl)) k_183 z_183 (by first | assumption | omega) rfl ?_
  refine zk_aload_n hX dX12_pose_329 rfl ?_
  refine zk_getR hX dX12_pose_330 flX12_59 k_166 z_166 (hw _ _ (by decide) |>.trans r_166_34) ?_
  refine zk_iconst (v := 3) hX dX12_pose_333 (by decide) ?_
  refine zk_iload hX dX12_pose_334 rfl ?_
  refine zk_imul hX dX12_pose_336 ?_
  refine zk_iconst (v := 2) hX dX12_pose_337 (by decide) ?_
  refine zk_iadd hX dX12_pose_338 ?_
  refine zk_iload hX dX12_pose_339 rfl ?_
  refine zk_iconst (v := 3) hX dX12_pose_341 (by decide) ?_
  refine zk_icmp_ne (tgt := 350) hX dX12_pose_342 (by decide) (fun c342 => ?_) (fun c342 => ?_)
  · refine zk_iload hX dX12_pose_350 rfl ?_
    refine zk_iastE hX dX12_pose_352 (nI_addE (nI_mulE (nI_k 3 rfl) rfl) (nI_k 2 rfl)) k_183 z_183 (by first | assumption | omega) rfl ?_
    refine zk_iconst (v := 0) hX dX12_pose_353 (by decide) ?_
    refine zk_istore (lo' := [_, _, _, _, _, _, _, _, _]) hX dX12_pose_354 (Nat.le_of_ble_eq_true rfl) rfl rfl ?_
    refine loop 10 0 _ rfl (zFr_t (zFr_t (zFr_i (by decide) (by decide)) (zFr_i (by decide) (by decide))) (zFr_i (by decide) (by decide))) ⟨?_, ?_, ?_, fun q hq => ?_⟩ (fun y hy => absurd hy (by omega)) (fun q hq => ?_)
    · rw [zsi_1, if_neg (by omega), zsi_1, if_neg (by omega), zsi_1, if_pos ⟨rfl, rfl⟩]
    · rw [zsi_1, if_neg (by omega), zsi_1, if_pos ⟨rfl, rfl⟩]
    · rw [zsi_1, if_pos ⟨rfl, rfl⟩]
      first
        | rw [if_pos (by first | exact c342 | exact Decidable.not_not.mp c342)]
        | rw [if_neg c342]
    · rw [zsi_1, if_neg (by omega), zsi_1, if_neg (by omega), zsi_1, if_neg (by omega)]
    · rw [zsi_o (by decide), zsi_o (by decide), zsi_o (by decide)]
  · refine zk_iload hX dX12_pose_345 rfl ?_
    refine zk_goto (tgt := 352) hX dX12_pose_347 (by decide) ?_
    refine zk_iastE hX dX12_pose_352 (nI_addE (nI_mulE (nI_k 3 rfl) rfl) (nI_k 2 rfl)) k_183 z_183 (by first | assumption | omega) rfl ?_
    refine zk_iconst (v := 0) hX dX12_pose_353 (by decide) ?_
    refine zk_istore (lo' := [_, _, _, _, _, _, _, _, _]) hX dX12_pose_354 (Nat.le_of_ble_eq_true rfl) rfl rfl ?_
    refine loop 10 0 _ rfl (zFr_t (zFr_t (zFr_i (by decide) (by decide)) (zFr_i (by decide) (by decide))) (zFr_i (by decide) (by decide))) ⟨?_, ?_, ?_, fun q hq => ?_⟩ (fun y hy => absurd hy (by omega)) (fun q hq => ?_)
    · rw [zsi_1, if_neg (by omega), zsi_1, if_neg (by omega), zsi_1, if_pos ⟨rfl, rfl⟩]
    · rw [zsi_1, if_neg (by omega), zsi_1, if_pos ⟨rfl, rfl⟩]
    · rw [zsi_1, if_pos ⟨rfl, rfl⟩]
      first
        | rw [if_pos (by first | exact c342 | exact Decidable.not_not.mp c342)]
        | rw [if_neg c342]
    · rw [zsi_1, if_neg (by omega), zsi_1, if_neg (by omega), zsi_1, if_neg (by omega)]
    · rw [zsi_o (by decide), zsi_o (by decide), zsi_o (by decide)]
