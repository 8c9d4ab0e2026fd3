/-- the model's dark lines are those of a set -/
def zMd (w : zW) (S : zS) : Prop := ∀ y, y < 10 → w.1 182 y = nI (zline S y)
theorem zMd_c {w : zW} {S T : zS} (h : zMd w S) (e : ∀ c, c < 120 → S c = T c) : zMd w T := fun y hy => by rw [h y hy, zline_c e hy]
theorem zMd_o {w w' : zW} {S : zS} (h : zMd w S) (e : w'.1 182 = w.1 182) : zMd w' S := fun y hy => by rw [e]; exact h y hy
theorem zline_put {S : zS} {x y y' : Nat} (hx : x < 12) : zline (zput S (12 * y + x)) y' = if y' = y then zline S y ||| (1 <<< x) else zline S y' := by
  by_cases q : y' = y
  · subst q
    rw [if_pos rfl]
    symm
    refine zbits_of (n := 12) (Nat.or_lt_two_pow (zline_lt S y') ?_) (fun i hi => ?_)
    · rw [Nat.one_shiftLeft]
      exact Nat.pow_lt_pow_right (by decide) hx
    · unfold zline
      rw [Nat.testBit_or, zbits_bit, Nat.one_shiftLeft, Nat.testBit_two_pow]
      unfold zput
      simp only [hi, decide_true, Bool.true_and]
      congr 1
      rw [decide_eq_decide]
      omega
  · rw [if_neg q]
    refine zbits_c (fun i hi => ?_)
    unfold zput
    have : ¬ 12 * y' + i = 12 * y + x := by omega
    simp [this]
theorem s_X12_darken {G : zG} {w : zW} {S : zS} (hw : zWf w) (hS : zMd w S) (x y : Int32) : zCv G mX12_darken [.ref 166, .int x, .int y] w (fun w' => zFr [182] [] [] w w' ∧ zMd w' (zdk1 S (x, y))) := by
  by_cases q : zon (x, y)
  · obtain ⟨x', y', hx, hy, e⟩ := zon_nat q
    obtain ⟨rfl, rfl⟩ := Prod.mk.inj e
    have e1 : zdk1 S (nI x', nI y') = zput S (12 * y' + x') := by unfold zdk1; rw [if_pos q, zcel_nI hx hy]
    rw [e1]
    refine zC_of (lo := [_, _, _]) kcX12_darken (Nat.le_of_ble_eq_true rfl) rfl (fun X hX hE => ?_)
    refine zk_iload_n hX dX12_darken_0 rfl ?_
    refine zk_iload_n hX dX12_darken_1 rfl ?_
    refine zk_S2i hX dX12_darken_2 kcX12_isOn mlX12_242 smX12_isOn rfl (s_X12_isOn _ _) (Nat.le_of_ble_eq_true rfl) rfl ?_
    refine zk_if_eqB (tgt := 20) hX dX12_darken_5 (by decide) (fun c5 => ?_) (fun c5 => ?_)
    · exact absurd c5 (fun c => c q)
    refine zk_aload_n hX dX12_darken_8 rfl ?_
    refine zk_getR hX dX12_darken_9 flX12_56 k_166 z_166 (hw _ _ (by decide) |>.trans r_166_32) ?_
    refine zk_iload_n hX dX12_darken_12 rfl ?_
    refine zk_dup2 hX dX12_darken_13 rfl rfl ?_
    refine zk_ialdE hX dX12_darken_14 rfl k_182 z_182 (by first | assumption | omega) rfl ?_
    rw [hS y' hy]
    refine zk_iconst (v := 1) hX dX12_darken_15 (by decide) ?_
    refine zk_iload_n hX dX12_darken_16 rfl ?_
    refine zk_ishl hX dX12_darken_17 ?_
    rw [show (1 : Int32) = nI 1 from rfl, nI_shl _ (by omega)]
    refine zk_ior hX dX12_darken_18 ?_
    rw [nI_or]
    refine zk_iastE hX dX12_darken_19 rfl k_182 z_182 (by first | assumption | omega) rfl ?_
    refine zk_vret hX hE rfl ⟨rfl, rfl⟩ dX12_darken_20 ⟨rfl, ?_⟩
    refine ⟨zFr_i (by decide) (by decide), fun y2 hy2 => ?_⟩
    rw [zsi_1, zline_put hx]
    by_cases r : y2 = y'
    · rw [if_pos ⟨rfl, r⟩, if_pos r]
    · rw [if_neg (fun z => r z.2), if_neg r, hS y2 hy2]
  · have e1 : zdk1 S (x, y) = S := by unfold zdk1; rw [if_neg q]
    rw [e1]
    refine zC_of (lo := [_, _, _]) kcX12_darken (Nat.le_of_ble_eq_true rfl) rfl (fun X hX hE => ?_)
    refine zk_iload_n hX dX12_darken_0 rfl ?_
    refine zk_iload_n hX dX12_darken_1 rfl ?_
    refine zk_S2i hX dX12_darken_2 kcX12_isOn mlX12_242 smX12_isOn rfl (s_X12_isOn _ _) (Nat.le_of_ble_eq_true rfl) rfl ?_
    refine zk_if_eqB (tgt := 20) hX dX12_darken_5 (by decide) (fun c5 => ?_) (fun c5 => ?_)
    rotate_left
    · exact absurd c5 q
    refine zk_vret hX hE rfl ⟨rfl, rfl⟩ dX12_darken_20 ⟨rfl, ?_⟩
    exact ⟨zFr_r, hS⟩
theorem zline_no {y : Nat} : zline zno y = 0 := zbits_0 12
theorem s_X12_layBright {G : zG} {w : zW} (hw : zWf w) : zCv G mX12_layBright [.ref 166] w (fun w' => zFr [182] [] [] w w' ∧ zMd w' zno) := by
  refine zC_of (lo := [_, _]) kcX12_layBright (Nat.le_of_ble_eq_true rfl) rfl (fun X hX hE => ?_)
  have loop : ∀ z i w1, i + z = 10 → zFr [182] [] [] w w1 → (∀ y, y < i → w1.1 182 y = 0) → zk0 G X mX12_layBright 2 [.ref 166, .int (nI i)] [] w1 := by
    intro z
    induction z with
    | zero =>
      intro i w1 hi hF h
      obtain rfl : i = 10 := by omega
      refine zk_iload_n hX dX12_layBright_2 rfl ?_
      refine zk_bipush (v := 10) hX dX12_layBright_3 (by decide) ?_
      refine zk_icmp_ge (tgt := 21) hX dX12_layBright_5 (by decide) (fun c5 => ?_) (fun c5 => ?_)
      rotate_left
      · exact absurd (by decide) c5
      refine zk_vret hX hE rfl ⟨rfl, rfl⟩ dX12_layBright_21 ⟨rfl, ?_⟩
      exact ⟨hF, fun y hy => by rw [h y hy, zline_no]; rfl⟩
    | succ z ih =>
      intro i w1 hi hF h
      have hw1 := zFr_wf hF hw
      refine zk_iload_n hX dX12_layBright_2 rfl ?_
      refine zk_bipush (v := 10) hX dX12_layBright_3 (by decide) ?_
      refine zk_icmp_ge (tgt := 21) hX dX12_layBright_5 (by decide) (fun c5 => ?_) (fun c5 => ?_)
      · exact absurd c5 (nI_ge (b := 10) (by omega) (by decide))
      refine zk_aload_n hX dX12_layBright_8 rfl ?_
      refine zk_getR hX dX12_layBright_9 flX12_56 k_166 z_166 (hw1 _ _ (by decide) |>.trans r_166_32) ?_
      refine zk_iload_n hX dX12_layBright_12 rfl ?_
      refine zk_iconst (v := 0) hX dX12_layBright_13 (by decide) ?_
      refine zk_iastE hX dX12_layBright_14 rfl k_182 z_182 (by first | assumption | omega) rfl ?_
      refine zk_iinc (lo' := [_, _]) hX dX12_layBright_15 rfl (by first | exact zinc _ | exact rfl) (Nat.le_of_ble_eq_true rfl) rfl rfl ?_
      refine zk_goto (tgt := 2) hX dX12_layBright_18 (by decide) ?_
      refine ih (i + 1) _ (by omega) (zFr_t hF (zFr_i (by decide) (by decide))) (fun y hy => ?_)
      rw [zsi_1]
      by_cases r : y = i
      · rw [if_pos ⟨rfl, r⟩]
      · rw [if_neg (fun z => r z.2)]
        exact h y (by omega)
  refine zk_iconst (v := 0) hX dX12_layBright_0 (by decide) ?_
  refine zk_istore_n (lo' := [_, _]) hX dX12_layBright_1 (Nat.le_of_ble_eq_true rfl) rfl rfl ?_
  exact loop 10 0 w (by omega) zFr_r (fun y hy => absurd hy (by omega))
/-! numbers of bits -/
theorem zcnt_rm {P R : Nat → Bool} {k : Nat} (hk : P k = true) (hR : R k = false) (he : ∀ i, i ≠ k → R i = P i) : ∀ {n : Nat}, zcnt R n + (if k < n then 1 else 0) = zcnt P n
  | 0 => by rw [if_neg (by omega)]; rfl
  | n + 1 => by
    have ih := zcnt_rm hk hR he (n := n)
    by_cases q : n = k
    · subst q
      rw [if_neg (by omega)] at ih
      rw [if_pos (by omega), zcnt_t hk, zcnt_f (by rw [hR]; decide)]
      omega
    · have e : (k < n + 1) ↔ (k < n) := by omega
      by_cases h : P n = true
      · rw [zcnt_t h, zcnt_t (by rw [he n q]; exact h)]
        by_cases r : k < n
        · rw [if_pos (by omega)]
          rw [if_pos r] at ih
          omega
        · rw [if_neg (by omega)]
          rw [if_neg r] at ih
          omega
      · rw [zcnt_f h, zcnt_f (by rw [he n q]; exact h)]
        by_cases r : k < n
        · rw [if_pos (by omega)]
          rw [if_pos r] at ih
          omega
        · rw [if_neg (by omega)]
          rw [if_neg r] at ih
          omega
theorem zlow_ex {a : Nat} (ha : a < 2 ^ 12) (h : ¬ a = 0) : ∃ k, k < 12 ∧ zlow a k := by
  rcases zfirst a.testBit 12 with q | ⟨k, h1, h2, h3⟩
  · exfalso
    apply h
    apply Nat.eq_of_testBit_eq
    intro i
    rw [Nat.zero_testBit]
    rcases Nat.lt_or_ge i 12 with r | r
    · exact q i r
    · exact Nat.testBit_lt_two_pow (Nat.lt_of_lt_of_le ha (Nat.pow_le_pow_right (by decide) r))
  · exact ⟨k, h1, h2, h3⟩
theorem s_X12_bits {G : zG} {w : zW} {a : Nat} (ha : a < 2 ^ 12) : zEi G mX12_bits [.int (nI a)] w (nI (zcnt a.testBit 12)) w := by
  refine zC_of (lo := [_, _, _]) kcX12_bits (Nat.le_of_ble_eq_true rfl) rfl (fun X hX hE => ?_)
  have loop : ∀ z b n, b ≤ z → b < 2 ^ 12 → n + zcnt b.testBit 12 = zcnt a.testBit 12 → zk0 G X mX12_bits 4 [.int (nI a), .int (nI n), .int (nI b)] [] w := by
    intro z
    induction z with
    | zero =>
      intro b n hb hb2 h
      obtain rfl : b = 0 := by omega
      refine zk_iload_n hX dX12_bits_4 rfl ?_
      refine zk_if_eq (tgt := 20) hX dX12_bits_5 (by decide) (fun c5 => ?_) (fun c5 => ?_)
      rotate_left
      · exact absurd rfl c5
      refine zk_iload_n hX dX12_bits_20 rfl ?_
      refine zk_iret hX hE rfl ⟨rfl, rfl⟩ dX12_bits_21 ⟨_, rfl, ?_⟩
      have e : zcnt (Nat.testBit 0) 12 = 0 := by decide
      rw [e, Nat.add_zero] at h
      exact ⟨by rw [h], rfl⟩
    | succ z ih =>
      intro b n hb hb2 h
      by_cases q : b = 0
      · exact ih b n (by omega) hb2 h
      · obtain ⟨k, hk, hl⟩ := zlow_ex hb2 q
        have h1 : (b &&& (b - 1)) ≤ b - 1 := Nat.and_le_right
        have h2 := zcnt_rm (P := b.testBit) (R := (b &&& (b - 1)).testBit) (k := k) hl.1 (by rw [zlow_clear hl]; simp) (fun i hi => by rw [zlow_clear hl]; simp [hi]) (n := 12)
        rw [if_pos hk] at h2
        refine zk_iload_n hX dX12_bits_4 rfl ?_
        refine zk_if_eq (tgt := 20) hX dX12_bits_5 (by decide) (fun c5 => ?_) (fun c5 => ?_)
        · exact absurd c5 (nI_ne0 (by omega) (by omega))
        refine zk_iinc (lo' := [_, _, _]) hX dX12_bits_8 rfl (by first | exact zinc _ | exact rfl) (Nat.le_of_ble_eq_true rfl) rfl rfl ?_
        refine zk_iload_n hX dX12_bits_11 rfl ?_
        refine zk_iload_n hX dX12_bits_12 rfl ?_
        refine zk_iconst (v := 1) hX dX12_bits_13 (by decide) ?_
        refine zk_isub hX dX12_bits_14 ?_
        rw [show (1 : Int32) = nI 1 from rfl, nI_sub (by omega)]
        refine zk_iand hX dX12_bits_15 ?_
        rw [nI_and]
        refine zk_istore_n (lo' := [_, _, _]) hX dX12_bits_16 (Nat.le_of_ble_eq_true rfl) rfl rfl ?_
        refine zk_goto (tgt := 4) hX dX12_bits_17 (by decide) ?_
        exact ih _ (n + 1) (by omega) (by omega) (by omega)
  refine zk_iconst (v := 0) hX dX12_bits_0 (by decide) ?_
  refine zk_istore_n (lo' := [_, _, _]) hX dX12_bits_1 (Nat.le_of_ble_eq_true rfl) rfl rfl ?_
  refine zk_iload_n hX dX12_bits_2 rfl ?_
  refine zk_istore_n (lo' := [_, _, _]) hX dX12_bits_3 (Nat.le_of_ble_eq_true rfl) rfl rfl ?_
  exact loop a a 0 (Nat.le_refl _) ha (by omega)
theorem zline_cnt (S : zS) (y : Nat) : zcnt (zline S y).testBit 12 = zcnt (fun x => S (12 * y + x)) 12 := zbits_cnt (Nat.le_refl _)
theorem zcnt_lines (S : zS) (y : Nat) : zcnt S (12 * (y + 1)) = zcnt S (12 * y) + zcnt (zline S y).testBit 12 := by
  rw [zline_cnt, show 12 * (y + 1) = 12 * y + 12 by omega, zcnt_add]
theorem s_X12_darkMany {G : zG} {w : zW} {S : zS} (hw : zWf w) (hS : zMd w S) : zEi G mX12_darkMany [.ref 166] w (nI (zcard S)) w := by
  refine zC_of (lo := [_, _, _]) kcX12_darkMany (Nat.le_of_ble_eq_true rfl) rfl (fun X hX hE => ?_)
  have loop : ∀ z i, i + z = 10 → zk0 G X mX12_darkMany 4 [.ref 166, .int (nI (zcnt S (12 * i))), .int (nI i)] [] w := by
    intro z
    induction z with
    | zero =>
      intro i hi
      obtain rfl : i = 10 := by omega
      refine zk_iload_n hX dX12_darkMany_4 rfl ?_
      refine zk_bipush (v := 10) hX dX12_darkMany_5 (by decide) ?_
      refine zk_icmp_ge (tgt := 28) hX dX12_darkMany_7 (by decide) (fun c7 => ?_) (fun c7 => ?_)
      rotate_left
      · exact absurd (by decide) c7
      refine zk_iload_n hX dX12_darkMany_28 rfl ?_
      refine zk_iret hX hE rfl ⟨rfl, rfl⟩ dX12_darkMany_29 ⟨_, rfl, ?_⟩
      exact ⟨rfl, rfl⟩
    | succ z ih =>
      intro i hi
      have h0 := ih (i + 1) (by omega)
      rw [zcnt_lines, ← nI_add] at h0
      refine zk_iload_n hX dX12_darkMany_4 rfl ?_
      refine zk_bipush (v := 10) hX dX12_darkMany_5 (by decide) ?_
      refine zk_icmp_ge (tgt := 28) hX dX12_darkMany_7 (by decide) (fun c7 => ?_) (fun c7 => ?_)
      · exact absurd c7 (nI_ge (b := 10) (by omega) (by decide))
      refine zk_iload_n hX dX12_darkMany_10 rfl ?_
      refine zk_aload_n hX dX12_darkMany_11 rfl ?_
      refine zk_getR hX dX12_darkMany_12 flX12_56 k_166 z_166 (hw _ _ (by decide) |>.trans r_166_32) ?_
      refine zk_iload_n hX dX12_darkMany_15 rfl ?_
      refine zk_ialdE hX dX12_darkMany_16 rfl k_182 z_182 (by first | assumption | omega) rfl ?_
      rw [hS i (by omega)]
      refine zk_S1i hX dX12_darkMany_17 kcX12_bits mlX12_266 smX12_bits rfl (s_X12_bits (zline_lt _ _)) (Nat.le_of_ble_eq_true rfl) rfl ?_
      refine zk_iadd hX dX12_darkMany_20 ?_
      refine zk_istore_n (lo' := [_, _, _]) hX dX12_darkMany_21 (Nat.le_of_ble_eq_true rfl) rfl rfl ?_
      refine zk_iinc (lo' := [_, _, _]) hX dX12_darkMany_22 rfl (by first | exact zinc _ | exact rfl) (Nat.le_of_ble_eq_true rfl) rfl rfl ?_
      refine zk_goto (tgt := 4) hX dX12_darkMany_25 (by decide) ?_
      exact h0
  refine zk_iconst (v := 0) hX dX12_darkMany_0 (by decide) ?_
  refine zk_istore_n (lo' := [_, _, _]) hX dX12_darkMany_1 (Nat.le_of_ble_eq_true rfl) rfl rfl ?_
  refine zk_iconst (v := 0) hX dX12_darkMany_2 (by decide) ?_
  refine zk_istore_n (lo' := [_, _, _]) hX dX12_darkMany_3 (Nat.le_of_ble_eq_true rfl) rfl rfl ?_
  exact loop 10 0 (by omega)
theorem zdkL_snoc {S : zS} {L : List zPt} {i : Nat} {p : zPt} (hp : L[i]? = some p) : zdkL S (L.take (i + 1)) = zdk1 (zdkL S (L.take i)) p := by
  rw [List.take_add_one, hp, zdkL_app]
  rfl
theorem s_X12_layShape {G : zG} {w : zW} {L : List zPt} (hw : zWf w) (hP : zPts w L) (hL : L.length ≤ 14) : zCv G mX12_layShape [.ref 166] w (fun w' => zFr [182] [] [] w w' ∧ zMd w' (zdkL zno L)) := by
  refine zC_of (lo := [_, _]) kcX12_layShape (Nat.le_of_ble_eq_true rfl) rfl (fun X hX hE => ?_)
  have loop : ∀ z i w1, i + z = L.length → zFr [182] [] [] w w1 → zMd w1 (zdkL zno (L.take i)) → zk0 G X mX12_layShape 6 [.ref 166, .int (nI i)] [] w1 := by
    intro z
    induction z with
    | zero =>
      intro i w1 hi hF h
      obtain rfl : i = L.length := by omega
      have hw1 := zFr_wf hF hw
      have hP1 := zPts_o hP ⟨hF.2.2.2 29 (by decide), hF.2.1 180 (by decide) (by decide), hF.2.1 181 (by decide) (by decide)⟩
      refine zk_iload_n hX dX12_layShape_6 rfl ?_
      refine zk_aload_n hX dX12_layShape_7 rfl ?_
      refine zk_getI hX dX12_layShape_8 flX12_225 k_166 z_166 ?_
      rw [hP1.1]
      refine zk_icmp_ge (tgt := 36) hX dX12_layShape_11 (by decide) (fun c11 => ?_) (fun c11 => ?_)
      rotate_left
      · exact absurd (nI_le (Nat.le_refl _) (by omega)) c11
      refine zk_vret hX hE rfl ⟨rfl, rfl⟩ dX12_layShape_36 ⟨rfl, ?_⟩
      rw [List.take_length] at h
      exact ⟨hF, h⟩
    | succ z ih =>
      intro i w1 hi hF h
      have hw1 := zFr_wf hF hw
      have hP1 := zPts_o hP ⟨hF.2.2.2 29 (by decide), hF.2.1 180 (by decide) (by decide), hF.2.1 181 (by decide) (by decide)⟩
      obtain ⟨p, hp⟩ : ∃ p, L[i]? = some p := ⟨L[i], List.getElem?_eq_getElem (by omega)⟩
      have hpp := hP1.2 i p hp
      refine zk_iload_n hX dX12_layShape_6 rfl ?_
      refine zk_aload_n hX dX12_layShape_7 rfl ?_
      refine zk_getI hX dX12_layShape_8 flX12_225 k_166 z_166 ?_
      rw [hP1.1]
      refine zk_icmp_ge (tgt := 36) hX dX12_layShape_11 (by decide) (fun c11 => ?_) (fun c11 => ?_)
      · exact absurd c11 (nI_ge (by omega) (by omega))
      refine zk_aload_n hX dX12_layShape_14 rfl ?_
      refine zk_aload_n hX dX12_layShape_15 rfl ?_
      refine zk_getR hX dX12_layShape_16 flX12_50 k_166 z_166 (hw1 _ _ (by decide) |>.trans r_166_30) ?_
      refine zk_iload_n hX dX12_layShape_19 rfl ?_
      refine zk_ialdE hX dX12_layShape_20 rfl k_180 z_180 (by first | assumption | omega) rfl ?_
      rw [hpp.1]
      refine zk_aload_n hX dX12_layShape_21 rfl ?_
      refine zk_getR hX dX12_layShape_22 flX12_53 k_166 z_166 (hw1 _ _ (by decide) |>.trans r_166_31) ?_
      refine zk_iload_n hX dX12_layShape_25 rfl ?_
      refine zk_ialdE hX dX12_layShape_26 rfl k_181 z_181 (by first | assumption | omega) rfl ?_
      rw [hpp.2]
      refine zk_V2vp hX dX12_layShape_27 kcX12_darken mlX12_272 viX12_darken rfl k_166 z_166 (s_X12_darken hw1 h _ _) (Nat.le_of_ble_eq_true rfl) rfl (fun w2 q2 => ?_)
      refine zk_iinc (lo' := [_, _]) hX dX12_layShape_30 rfl (by first | exact zinc _ | exact rfl) (Nat.le_of_ble_eq_true rfl) rfl rfl ?_
      refine zk_goto (tgt := 6) hX dX12_layShape_33 (by decide) ?_
      refine ih (i + 1) w2 (by omega) (zFr_t hF q2.1) ?_
      rw [zdkL_snoc hp]
      exact q2.2
  refine zk_aload_n hX dX12_layShape_0 rfl ?_
  refine zk_V0vp hX dX12_layShape_1 kcX12_layBright mlX12_269 viX12_layBright rfl k_166 z_166 (s_X12_layBright hw) (Nat.le_of_ble_eq_true rfl) rfl (fun w2 q2 => ?_)
  refine zk_iconst (v := 0) hX dX12_layShape_4 (by decide) ?_
  refine zk_istore_n (lo' := [_, _]) hX dX12_layShape_5 (Nat.le_of_ble_eq_true rfl) rfl rfl ?_
  exact loop L.length 0 w2 (by omega) q2.1 q2.2
/-! what points throw -/
def zcol (S : zS) (X Y : Int32) : Nat → zS
  | 0 => S
  | l + 1 => zdk1 (zcol S X Y l) (X, Y + nI l)
def zblk (S : zS) (X Y : Int32) (z : Nat) : Nat → zS
  | 0 => S
  | k + 1 => zcol (zblk S X Y z k) (X + nI k) Y z
theorem zcol_m {S : zS} {X Y : Int32} {c : Nat} : ∀ {l : Nat}, zcol S X Y l c = true ↔ (S c = true ∨ ∃ m, m < l ∧ zon (X, Y + nI m) ∧ zcel (X, Y + nI m) = c)
  | 0 => ⟨Or.inl, fun h => h.elim id (fun q => by obtain ⟨m, hm, _⟩ := q; exact absurd hm (by omega))⟩
  | l + 1 => by
    show zdk1 (zcol S X Y l) (X, Y + nI l) c = true ↔ _
    rw [zdk1_m, zcol_m]
    constructor
    · rintro ((h | ⟨m, h1, h2⟩) | h)
      · exact Or.inl h
      · exact Or.inr ⟨m, by omega, h2⟩
      · exact Or.inr ⟨l, by omega, h⟩
    · rintro (h | ⟨m, h1, h2⟩)
      · exact Or.inl (Or.inl h)
      · rcases Nat.lt_succ_iff_lt_or_eq.mp h1 with h | rfl
        · exact Or.inl (Or.inr ⟨m, h, h2⟩)
        · exact Or.inr h2
theorem zblk_m {S : zS} {X Y : Int32} {z c : Nat} : ∀ {k : Nat}, zblk S X Y z k c = true ↔ (S c = true ∨ ∃ n, n < k ∧ ∃ m, m < z ∧ zon (X + nI n, Y + nI m) ∧ zcel (X + nI n, Y + nI m) = c)
  | 0 => ⟨Or.inl, fun h => h.elim id (fun q => by obtain ⟨m, hm, _⟩ := q; exact absurd hm (by omega))⟩
  | k + 1 => by
    show zcol (zblk S X Y z k) (X + nI k) Y z c = true ↔ _
    rw [zcol_m, zblk_m]
    constructor
    · rintro ((h | ⟨m, h1, h2⟩) | h)
      · exact Or.inl h
      · exact Or.inr ⟨m, by omega, h2⟩
      · exact Or.inr ⟨k, by omega, h⟩
    · rintro (h | ⟨m, h1, h2⟩)
      · exact Or.inl (Or.inl h)
      · rcases Nat.lt_succ_iff_lt_or_eq.mp h1 with h | rfl
        · exact Or.inl (Or.inr ⟨m, h, h2⟩)
        · exact Or.inr h2
theorem zoff3 {a e : Nat} (ha : a < 100) (he : e < 100) : nI a - 3 + nI e = nI (a + e) - 3 := by
  rw [← nI_add]
  grind
theorem zin3 {a n : Nat} (ha : a < 100) (hn : n ≤ 12) : (0 ≤ nI a - 3 ∧ nI a - 3 < nI n) ↔ (3 ≤ a ∧ a < n + 3) := by
  rcases Nat.lt_or_ge a 3 with h | h
  · constructor
    · intro q
      exact absurd q.1 ((by decide +kernel : ∀ a, a < 3 → ¬ 0 ≤ nI a - 3) a h)
    · intro q
      omega
  · obtain ⟨b, rfl⟩ : ∃ b, a = b + 3 := ⟨a - 3, by omega⟩
    rw [show (3 : Int32) = nI 3 from rfl, nI_sub (by omega), show b + 3 - 3 = b by omega]
    constructor
    · intro q
      have := (nI_ltI (by omega) (by omega)).mp q.2
      omega
    · intro q
      exact ⟨nI_pos' (by omega), nI_lt (by omega) (by omega)⟩
theorem zon3 {a b c : Nat} (ha : a < 100) (hb : b < 100) (hc : c < 120) : (zon (nI a - 3, nI b - 3) ∧ zcel (nI a - 3, nI b - 3) = c) ↔ (a = c % 12 + 3 ∧ b = c / 12 + 3) := by
  have e1 := zin3 (a := a) (n := 12) ha (by decide)
  have e2 := zin3 (a := b) (n := 10) hb (by decide)
  constructor
  · rintro ⟨⟨h1, h2⟩, h3⟩
    have g1 := e1.mp h1
    have g2 := e2.mp h2
    rw [show nI a - 3 = nI (a - 3) from nI_sub (b := 3) g1.1, show nI b - 3 = nI (b - 3) from nI_sub (b := 3) g2.1, zcel_nI (by omega) (by omega)] at h3
    omega
  · rintro ⟨h1, h2⟩
    refine ⟨⟨e1.mpr ⟨by omega, by omega⟩, e2.mpr ⟨by omega, by omega⟩⟩, ?_⟩
    rw [show nI a - 3 = nI (a - 3) from nI_sub (b := 3) (by omega), show nI b - 3 = nI (b - 3) from nI_sub (b := 3) (by omega), zcel_nI (by omega) (by omega)]
    omega
theorem zblk_all {S : zS} {z u v x y c : Nat} (ho : zlok z u v) (hx : x < 12) (hy : y < 10) (hc : c < 120) : zblk S (nI (z * x + u) - 3) (nI (z * y + v) - 3) z z c = (S c || zhit z u v (12 * y + x) c) := by
  have hz := ho.1.2
  have hzy : z * y ≤ 2 * 9 := Nat.mul_le_mul hz (by omega)
  have hzx : z * x ≤ 2 * 11 := Nat.mul_le_mul hz (by omega)
  have hu := ho.2.1
  have hv := ho.2.2
  rw [Bool.eq_iff_iff, zblk_m, Bool.or_eq_true]
  refine or_congr Iff.rfl ?_
  unfold zhit
  rw [decide_eq_true_eq, show (12 * y + x) % 12 = x by omega, show (12 * y + x) / 12 = y by omega]
  constructor
  · rintro ⟨n, h1, m, h2, h3⟩
    rw [zoff3 (by omega) (by omega), zoff3 (by omega) (by omega), zon3 (by omega) (by omega) hc] at h3
    omega
  · rintro ⟨h1, h2, h3, h4⟩
    refine ⟨c % 12 + 3 - (z * x + u), by omega, c / 12 + 3 - (z * y + v), by omega, ?_⟩
    rw [zoff3 (by omega) (by omega), zoff3 (by omega) (by omega), zon3 (by omega) (by omega) hc]
    omega
theorem zthr_put {z u v a c : Nat} {S : zS} (ha : a < 120) : zthr z u v (zput S a) c = (zthr z u v S c || zhit z u v a c) := by
  rw [Bool.eq_iff_iff, Bool.or_eq_true, zthr_m, zthr_m]
  unfold zput
  simp only [Bool.or_eq_true, decide_eq_true_eq]
  constructor
  · rintro ⟨b, h1, h2 | rfl, h3⟩
    · exact Or.inl ⟨b, h1, h2, h3⟩
    · exact Or.inr h3
  · rintro (⟨b, h1, h2, h3⟩ | h3)
    · exact ⟨b, h1, Or.inl h2, h3⟩
    · exact ⟨a, ha, Or.inr rfl, h3⟩
/-- the model's lamp -/
def mLm (w : zW) (z u v : Nat) : Prop := w.1 166 25 = nI z ∧ w.1 166 26 = nI u - 3 ∧ w.1 166 27 = nI v - 3
theorem mLm_o {w w' : zW} {z u v : Nat} (h : mLm w z u v) (e : w'.1 166 25 = w.1 166 25 ∧ w'.1 166 26 = w.1 166 26 ∧ w'.1 166 27 = w.1 166 27) : mLm w' z u v := by
  unfold mLm
  rw [e.1, e.2.1, e.2.2]
  exact h
theorem s_X12_layThrown {G : zG} {w : zW} {L : List zPt} {z u v : Nat} (hw : zWf w) (hP : zPts w L) (hL : L.length ≤ 14) (hl : mLm w z u v) (ho : zlok z u v) : zCv G mX12_layThrown [.ref 166] w (fun w' => zFr [182] [] [] w w' ∧ zMd w' (zthr z u v (zdkL zno L))) := by
  have hz := ho.1.2
  refine zC_of (lo := [_, _, _, _, _, _]) kcX12_layThrown (Nat.le_of_ble_eq_true rfl) rfl (fun X hX hE => ?_)
  have loop : ∀ m i w1 (a b c d : Value), i + m = L.length → zFr [182] [] [] w w1 → zMd w1 (zthr z u v (zdkL zno (L.take i))) → zk0 G X mX12_layThrown 6 [.ref 166, .int (nI i), a, b, c, d] [] w1 := by
    intro m
    induction m with
    | zero =>
      intro i w1 a b c d hi hF h
      obtain rfl : i = L.length := by omega
      have hw1 := zFr_wf hF hw
      have hP1 := zPts_o hP ⟨hF.2.2.2 29 (by decide), hF.2.1 180 (by decide) (by decide), hF.2.1 181 (by decide) (by decide)⟩
      refine zk_iload_n hX dX12_layThrown_6 rfl ?_
      refine zk_aload_n hX dX12_layThrown_7 rfl ?_
      refine zk_getI hX dX12_layThrown_8 flX12_225 k_166 z_166 ?_
      rw [hP1.1]
      refine zk_icmp_ge (tgt := 120) hX dX12_layThrown_11 (by decide) (fun c11 => ?_) (fun c11 => ?_)
      rotate_left
      · exact absurd (nI_le (Nat.le_refl _) (by omega)) c11
      refine zk_vret hX hE rfl ⟨rfl, rfl⟩ dX12_layThrown_120 ⟨rfl, ?_⟩
      rw [List.take_length] at h
      exact ⟨hF, h⟩
    | succ m ih =>
      intro i w1 a b c d hi hF h
      have hw1 := zFr_wf hF hw
      have hP1 := zPts_o hP ⟨hF.2.2.2 29 (by decide), hF.2.1 180 (by decide) (by decide), hF.2.1 181 (by decide) (by decide)⟩
      have hl1 := mLm_o hl ⟨hF.2.2.2 25 (by decide), hF.2.2.2 26 (by decide), hF.2.2.2 27 (by decide)⟩
      obtain ⟨p, hp⟩ : ∃ p, L[i]? = some p := ⟨L[i], List.getElem?_eq_getElem (by omega)⟩
      have hpp := hP1.2 i p hp
      have es := zdkL_snoc (S := zno) hp
      by_cases q : zon p
      · obtain ⟨x, y, hx, hy, rfl⟩ := zon_nat q
        have e1 : zdk1 (zdkL zno (L.take i)) (nI x, nI y) = zput (zdkL zno (L.take i)) (12 * y + x) := by unfold zdk1; rw [if_pos q, zcel_nI hx hy]
        have hout : ∀ w2 c d, zFr [182] [] [] w w2 → zMd w2 (zblk (zthr z u v (zdkL zno (L.take i))) (nI (z * x + u) - 3) (nI (z * y + v) - 3) z z) → zk0 G X mX12_layThrown 6 [.ref 166, .int (nI (i + 1)), .int (nI (z * x + u) - 3), .int (nI (z * y + v) - 3), c, d] [] w2 := by
          intro w2 c d hF2 h2
          refine ih (i + 1) w2 _ _ _ _ (by omega) hF2 (zMd_c h2 (fun c hc => ?_))
          rw [zblk_all ho hx hy hc, es, e1, zthr_put (by omega)]
        have outer : ∀ n k w2 (d : Value), k + n = z → zFr [182] [] [] w w2 → zMd w2 (zblk (zthr z u v (zdkL zno (L.take i))) (nI (z * x + u) - 3) (nI (z * y + v) - 3) z k) → zk0 G X mX12_layThrown 69 [.ref 166, .int (nI i), .int (nI (z * x + u) - 3), .int (nI (z * y + v) - 3), .int (nI k), d] [] w2 := by
          intro n
          induction n with
          | zero =>
            intro k w2 d hk hF2 h2
            obtain rfl : k = z := by omega
            have hw2 := zFr_wf hF2 hw
            have hl2 := mLm_o hl ⟨hF2.2.2.2 25 (by decide), hF2.2.2.2 26 (by decide), hF2.2.2.2 27 (by decide)⟩
            refine zk_iload hX dX12_layThrown_69 rfl ?_
            refine zk_aload_n hX dX12_layThrown_71 rfl ?_
            refine zk_getI hX dX12_layThrown_72 flX12_125 k_166 z_166 ?_
            rw [hl2.1]
            refine zk_icmp_ge (tgt := 114) hX dX12_layThrown_75 (by decide) (fun c75 => ?_) (fun c75 => ?_)
            rotate_left
            · exact absurd (nI_le (Nat.le_refl _) (by omega)) c75
            refine zk_iinc (lo' := [_, _, _, _, _, _]) hX dX12_layThrown_114 rfl (by first | exact zinc _ | exact rfl) (Nat.le_of_ble_eq_true rfl) rfl rfl ?_
            refine zk_goto (tgt := 6) hX dX12_layThrown_117 (by decide) ?_
            exact hout w2 _ _ hF2 h2
          | succ n ih2 =>
            intro k w2 d hk hF2 h2
            have hw2 := zFr_wf hF2 hw
            have hl2 := mLm_o hl ⟨hF2.2.2.2 25 (by decide), hF2.2.2.2 26 (by decide), hF2.2.2.2 27 (by decide)⟩
            have inner : ∀ e j w3, j + e = z → zFr [182] [] [] w w3 → zMd w3 (zcol (zblk (zthr z u v (zdkL zno (L.take i))) (nI (z * x + u) - 3) (nI (z * y + v) - 3) z k) (nI (z * x + u) - 3 + nI k) (nI (z * y + v) - 3) j) → zk0 G X mX12_layThrown 81 [.ref 166, .int (nI i), .int (nI (z * x + u) - 3), .int (nI (z * y + v) - 3), .int (nI k), .int (nI j)] [] w3 := by
              intro e
              induction e with
              | zero =>
                intro j w3 hj hF3 h3
                obtain rfl : j = z := by omega
                have hw3 := zFr_wf hF3 hw
                have hl3 := mLm_o hl ⟨hF3.2.2.2 25 (by decide), hF3.2.2.2 26 (by decide), hF3.2.2.2 27 (by decide)⟩
                refine zk_iload hX dX12_layThrown_81 rfl ?_
                refine zk_aload_n hX dX12_layThrown_83 rfl ?_
                refine zk_getI hX dX12_layThrown_84 flX12_125 k_166 z_166 ?_
                rw [hl3.1]
                refine zk_icmp_ge (tgt := 108) hX dX12_layThrown_87 (by decide) (fun c87 => ?_) (fun c87 => ?_)
                rotate_left
                · exact absurd (nI_le (Nat.le_refl _) (by omega)) c87
                refine zk_iinc (lo' := [_, _, _, _, _, _]) hX dX12_layThrown_108 rfl (by first | exact zinc _ | exact rfl) (Nat.le_of_ble_eq_true rfl) rfl rfl ?_
                refine zk_goto (tgt := 69) hX dX12_layThrown_111 (by decide) ?_
                exact ih2 (k + 1) w3 _ (by omega) hF3 h3
              | succ e ih3 =>
                intro j w3 hj hF3 h3
                have hw3 := zFr_wf hF3 hw
                have hl3 := mLm_o hl ⟨hF3.2.2.2 25 (by decide), hF3.2.2.2 26 (by decide), hF3.2.2.2 27 (by decide)⟩
                refine zk_iload hX dX12_layThrown_81 rfl ?_
                refine zk_aload_n hX dX12_layThrown_83 rfl ?_
                refine zk_getI hX dX12_layThrown_84 flX12_125 k_166 z_166 ?_
                rw [hl3.1]
                refine zk_icmp_ge (tgt := 108) hX dX12_layThrown_87 (by decide) (fun c87 => ?_) (fun c87 => ?_)
                · exact absurd c87 (nI_ge (by omega) (by omega))
                refine zk_aload_n hX dX12_layThrown_90 rfl ?_
                refine zk_iload_n hX dX12_layThrown_91 rfl ?_
                refine zk_iload hX dX12_layThrown_92 rfl ?_
                refine zk_iadd hX dX12_layThrown_94 ?_
                refine zk_iload_n hX dX12_layThrown_95 rfl ?_
                refine zk_iload hX dX12_layThrown_96 rfl ?_
                refine zk_iadd hX dX12_layThrown_98 ?_
                refine zk_V2vp hX dX12_layThrown_99 kcX12_darken mlX12_272 viX12_darken rfl k_166 z_166 (s_X12_darken hw3 h3 _ _) (Nat.le_of_ble_eq_true rfl) rfl (fun w4 q4 => ?_)
                refine zk_iinc (lo' := [_, _, _, _, _, _]) hX dX12_layThrown_102 rfl (by first | exact zinc _ | exact rfl) (Nat.le_of_ble_eq_true rfl) rfl rfl ?_
                refine zk_goto (tgt := 81) hX dX12_layThrown_105 (by decide) ?_
                exact ih3 (j + 1) w4 (by omega) (zFr_t hF3 q4.1) q4.2
            refine zk_iload hX dX12_layThrown_69 rfl ?_
            refine zk_aload_n hX dX12_layThrown_71 rfl ?_
            refine zk_getI hX dX12_layThrown_72 flX12_125 k_166 z_166 ?_
            rw [hl2.1]
            refine zk_icmp_ge (tgt := 114) hX dX12_layThrown_75 (by decide) (fun c75 => ?_) (fun c75 => ?_)
            · exact absurd c75 (nI_ge (by omega) (by omega))
            refine zk_iconst (v := 0) hX dX12_layThrown_78 (by decide) ?_
            refine zk_istore (lo' := [_, _, _, _, _, _]) hX dX12_layThrown_79 (Nat.le_of_ble_eq_true rfl) rfl rfl ?_
            exact inner z 0 w2 (by omega) hF2 h2
        refine zk_iload_n hX dX12_layThrown_6 rfl ?_
        refine zk_aload_n hX dX12_layThrown_7 rfl ?_
        refine zk_getI hX dX12_layThrown_8 flX12_225 k_166 z_166 ?_
        rw [hP1.1]
        refine zk_icmp_ge (tgt := 120) hX dX12_layThrown_11 (by decide) (fun c11 => ?_) (fun c11 => ?_)
        · exact absurd c11 (nI_ge (by omega) (by omega))
        refine zk_aload_n hX dX12_layThrown_14 rfl ?_
        refine zk_getR hX dX12_layThrown_15 flX12_50 k_166 z_166 (hw1 _ _ (by decide) |>.trans r_166_30) ?_
        refine zk_iload_n hX dX12_layThrown_18 rfl ?_
        refine zk_ialdE hX dX12_layThrown_19 rfl k_180 z_180 (by first | assumption | omega) rfl ?_
        rw [hpp.1]
        refine zk_aload_n hX dX12_layThrown_20 rfl ?_
        refine zk_getR hX dX12_layThrown_21 flX12_53 k_166 z_166 (hw1 _ _ (by decide) |>.trans r_166_31) ?_
        refine zk_iload_n hX dX12_layThrown_24 rfl ?_
        refine zk_ialdE hX dX12_layThrown_25 rfl k_181 z_181 (by first | assumption | omega) rfl ?_
        rw [hpp.2]
        refine zk_S2i hX dX12_layThrown_26 kcX12_isOn mlX12_242 smX12_isOn rfl (s_X12_isOn _ _) (Nat.le_of_ble_eq_true rfl) rfl ?_
        refine zk_if_eqB (tgt := 114) hX dX12_layThrown_29 (by decide) (fun c29 => ?_) (fun c29 => ?_)
        · exact absurd c29 (fun c => c q)
        refine zk_aload_n hX dX12_layThrown_32 rfl ?_
        refine zk_getI hX dX12_layThrown_33 flX12_125 k_166 z_166 ?_
        rw [hl1.1]
        refine zk_aload_n hX dX12_layThrown_36 rfl ?_
        refine zk_getR hX dX12_layThrown_37 flX12_50 k_166 z_166 (hw1 _ _ (by decide) |>.trans r_166_30) ?_
        refine zk_iload_n hX dX12_layThrown_40 rfl ?_
        refine zk_ialdE hX dX12_layThrown_41 rfl k_180 z_180 (by first | assumption | omega) rfl ?_
        rw [hpp.1]
        refine zk_imul hX dX12_layThrown_42 ?_
        refine zk_aload_n hX dX12_layThrown_43 rfl ?_
        refine zk_getI hX dX12_layThrown_44 flX12_211 k_166 z_166 ?_
        rw [hl1.2.1]
        refine zk_iadd hX dX12_layThrown_47 ?_
        rw [show nI z * nI x + (nI u - 3) = nI (z * x + u) - 3 by rw [nI_mul, ← nI_add]; grind]
        refine zk_istore_n (lo' := [_, _, _, _, _, _]) hX dX12_layThrown_48 (Nat.le_of_ble_eq_true rfl) rfl rfl ?_
        refine zk_aload_n hX dX12_layThrown_49 rfl ?_
        refine zk_getI hX dX12_layThrown_50 flX12_125 k_166 z_166 ?_
        rw [hl1.1]
        refine zk_aload_n hX dX12_layThrown_53 rfl ?_
        refine zk_getR hX dX12_layThrown_54 flX12_53 k_166 z_166 (hw1 _ _ (by decide) |>.trans r_166_31) ?_
        refine zk_iload_n hX dX12_layThrown_57 rfl ?_
        refine zk_ialdE hX dX12_layThrown_58 rfl k_181 z_181 (by first | assumption | omega) rfl ?_
        rw [hpp.2]
        refine zk_imul hX dX12_layThrown_59 ?_
        refine zk_aload_n hX dX12_layThrown_60 rfl ?_
        refine zk_getI hX dX12_layThrown_61 flX12_214 k_166 z_166 ?_
        rw [hl1.2.2]
        refine zk_iadd hX dX12_layThrown_64 ?_
        rw [show nI z * nI y + (nI v - 3) = nI (z * y + v) - 3 by rw [nI_mul, ← nI_add]; grind]
        refine zk_istore_n (lo' := [_, _, _, _, _, _]) hX dX12_layThrown_65 (Nat.le_of_ble_eq_true rfl) rfl rfl ?_
        refine zk_iconst (v := 0) hX dX12_layThrown_66 (by decide) ?_
        refine zk_istore (lo' := [_, _, _, _, _, _]) hX dX12_layThrown_67 (Nat.le_of_ble_eq_true rfl) rfl rfl ?_
        exact outer z 0 w1 _ (by omega) hF h
      · have e1 : zdk1 (zdkL zno (L.take i)) p = zdkL zno (L.take i) := by unfold zdk1; rw [if_neg q]
        rw [← e1, ← es] at h
        refine zk_iload_n hX dX12_layThrown_6 rfl ?_
        refine zk_aload_n hX dX12_layThrown_7 rfl ?_
        refine zk_getI hX dX12_layThrown_8 flX12_225 k_166 z_166 ?_
        rw [hP1.1]
        refine zk_icmp_ge (tgt := 120) hX dX12_layThrown_11 (by decide) (fun c11 => ?_) (fun c11 => ?_)
        · exact absurd c11 (nI_ge (by omega) (by omega))
        refine zk_aload_n hX dX12_layThrown_14 rfl ?_
        refine zk_getR hX dX12_layThrown_15 flX12_50 k_166 z_166 (hw1 _ _ (by decide) |>.trans r_166_30) ?_
        refine zk_iload_n hX dX12_layThrown_18 rfl ?_
        refine zk_ialdE hX dX12_layThrown_19 rfl k_180 z_180 (by first | assumption | omega) rfl ?_
        rw [hpp.1]
        refine zk_aload_n hX dX12_layThrown_20 rfl ?_
        refine zk_getR hX dX12_layThrown_21 flX12_53 k_166 z_166 (hw1 _ _ (by decide) |>.trans r_166_31) ?_
        refine zk_iload_n hX dX12_layThrown_24 rfl ?_
        refine zk_ialdE hX dX12_layThrown_25 rfl k_181 z_181 (by first | assumption | omega) rfl ?_
        rw [hpp.2]
        refine zk_S2i hX dX12_layThrown_26 kcX12_isOn mlX12_242 smX12_isOn rfl (s_X12_isOn _ _) (Nat.le_of_ble_eq_true rfl) rfl ?_
        refine zk_if_eqB (tgt := 114) hX dX12_layThrown_29 (by decide) (fun c29 => ?_) (fun c29 => ?_)
        rotate_left
        · exact absurd c29 q
        refine zk_iinc (lo' := [_, _, _, _, _, _]) hX dX12_layThrown_114 rfl (by first | exact zinc _ | exact rfl) (Nat.le_of_ble_eq_true rfl) rfl rfl ?_
        refine zk_goto (tgt := 6) hX dX12_layThrown_117 (by decide) ?_
        exact ih (i + 1) w1 _ _ _ _ (by omega) hF h
  refine zk_aload_n hX dX12_layThrown_0 rfl ?_
  refine zk_V0vp hX dX12_layThrown_1 kcX12_layBright mlX12_269 viX12_layBright rfl k_166 z_166 (s_X12_layBright hw) (Nat.le_of_ble_eq_true rfl) rfl (fun w2 q2 => ?_)
  refine zk_iconst (v := 0) hX dX12_layThrown_4 (by decide) ?_
  refine zk_istore_n (lo' := [_, _, _, _, _, _]) hX dX12_layThrown_5 (Nat.le_of_ble_eq_true rfl) rfl rfl ?_
  exact loop L.length 0 w2 _ _ _ _ (by omega) q2.1 (by rw [List.take_zero, zdkL_0, zthr_no]; exact q2.2)
