/-! lookers: what is seen of a pose, and the beast that is named -/
abbrev zBd : Type := (Nat → zS) × (Nat → zS) × (Nat → Bool) × (Nat → Bool)
abbrev bM (b : zBd) := b.1
abbrev bY (b : zBd) := b.2.1
abbrev bT (b : zBd) := b.2.2.1
abbrev bV (b : zBd) := b.2.2.2
def cBs (w : zW) (b : zBd) : Prop := ∀ k, k < 6 → cBe w k (bM b k) (bY b k) ∧ (¬ w.1 (96 + 3 * k) 3 = 0 ↔ bT b k = true) ∧ (w.1 (96 + 3 * k) 2 = 1 ↔ bV b k = true)
def mBs (w : zW) (b : zBd) : Prop := ∀ k, k < 6 → mBe w k (bM b k) (bY b k) ∧ (¬ w.1 186 k = 0 ↔ bT b k = true) ∧ (w.1 189 k = 1 ↔ bV b k = true)
theorem qB_b {w : zW} (h : qB w) : ∃ b : zBd, cBs w b ∧ mBs w b := by
  have ex : ∀ k : Nat, ∃ p : zS × zS, k < 6 → cBe w k p.1 p.2 ∧ mBe w k p.1 p.2 := fun k => by
    by_cases hk : k < 6
    · obtain ⟨_, _, _, M, Y, h1, h2⟩ := h k hk
      exact ⟨(M, Y), fun _ => ⟨h1, h2⟩⟩
    · exact ⟨(zno, zno), fun q => absurd q hk⟩
  refine ⟨(fun k => (ex k).choose.1, fun k => (ex k).choose.2, fun k => decide (¬ w.1 186 k = 0), fun k => decide (w.1 189 k = 1)), fun k hk => ?_, fun k hk => ?_⟩
  · exact ⟨((ex k).choose_spec hk).1, by rw [(h k hk).1, decide_eq_true_eq], by rw [(h k hk).2.2.1, decide_eq_true_eq]⟩
  · exact ⟨((ex k).choose_spec hk).2, by rw [decide_eq_true_eq], by rw [decide_eq_true_eq]⟩
theorem cBs_f {A B F : List Nat} {w w' : zW} {b : zBd} (h : cBs w b) (hF : zFr A B F w w') (k : (okc kBe A && okc kBe B) = true) : cBs w' b := by
  simp only [Bool.and_eq_true] at k
  intro q hq
  unfold cBe zHas
  rw [hF.2.1 (96 + 3 * q) (okc_m k.1 (kBe_m (by omega) (by omega))) (by omega), hF.2.2.1 (97 + 3 * q) (okc_m k.2 (kBe_m (by omega) (by omega))), hF.2.2.1 (98 + 3 * q) (okc_m k.2 (kBe_m (by omega) (by omega)))]
  exact h q hq
theorem mBs_f {A B F : List Nat} {w w' : zW} {b : zBd} (h : mBs w b) (hF : zFr A B F w w') (k : okc [186, 187, 188, 189] A = true) : mBs w' b := by
  intro q hq
  unfold mBe
  rw [hF.2.1 186 (okc_m k (by simp)) (by decide), hF.2.1 187 (okc_m k (by simp)) (by decide), hF.2.1 188 (okc_m k (by simp)) (by decide), hF.2.1 189 (okc_m k (by simp)) (by decide)]
  exact h q hq
def zul (b : zBd) (mo : Bool) (k : Nat) : Nat := if bV b k = mo then 0 else 1
/-- what weights make of beast k, where Z is seen -/
def zsw (b : zBd) (Z : zS) (mo : Bool) (e a d k : Nat) : Nat := e * zmis (bM b k) Z + a * zovr (bM b k) (bY b k) Z + d * zul b mo k
theorem zmis_le (M S : zS) : zmis M S ≤ 120 := zcard_le _
theorem zovr_le (M Y S : zS) : zovr M Y S ≤ 120 := zcard_le _
theorem zsw_le {b : zBd} {Z : zS} {mo : Bool} {e a d k : Nat} (he : e ≤ 9) (ha : a ≤ 9) (hd : d ≤ 9) : zsw b Z mo e a d k ≤ 4000 := by
  have h1 := zmis_le (bM b k) Z
  have h2 := zovr_le (bM b k) (bY b k) Z
  have h3 : zul b mo k ≤ 1 := by unfold zul; split <;> omega
  have h4 : e * zmis (bM b k) Z ≤ 9 * 120 := Nat.mul_le_mul he h1
  have h5 : a * zovr (bM b k) (bY b k) Z ≤ 9 * 120 := Nat.mul_le_mul ha h2
  have h6 : d * zul b mo k ≤ 9 * 1 := Nat.mul_le_mul hd h3
  unfold zsw
  omega
/-- the beast that is named -/
def zgs (b : zBd) (Z : zS) (mo : Bool) (e a d : Nat) : Option Nat := zbst (bT b) (zsw b Z mo e a d) 6
def cMe (w : zW) (b : zBd) (Z : zS) (mo : Bool) : Prop := ∀ k, k < 6 → w.1 127 k = nI (zmis (bM b k) Z) ∧ w.1 128 k = nI (zovr (bM b k) (bY b k) Z) ∧ w.1 129 k = nI (zul b mo k)
theorem s_X4_measure {G : zG} {w : zW} {b : zBd} {Z : zS} (hw : zWf w) (hB : cBs w b) (hZ : zHas w 163 Z) (mo : Bool) : zCv G mX4_measure [.ref 114, .ref 95, .ref 163, .int (zb (mo = true))] w (fun w' => zFr [127, 128, 129] [] [] w w' ∧ cMe w' b Z mo) := by
  refine zC_of (lo := [_, _, _, _, _]) kcX4_measure (Nat.le_of_ble_eq_true rfl) rfl (fun X hX hE => ?_)
  have loop : ∀ m i w1, i + m = 6 → zFr [127, 128, 129] [] [] w w1 → (∀ k, k < i → w1.1 127 k = nI (zmis (bM b k) Z) ∧ w1.1 128 k = nI (zovr (bM b k) (bY b k) Z) ∧ w1.1 129 k = nI (zul b mo k)) → zk0 G X mX4_measure 3 [.ref 114, .ref 95, .ref 163, .int (zb (mo = true)), .int (nI i)] [] w1 := by
    intro m
    induction m with
    | zero =>
      intro i w1 hi hF h
      obtain rfl : i = 6 := by omega
      have hw1 := zFr_wf hF hw
      refine zk_iload hX dX4_measure_3 rfl ?_
      refine zk_bipush (v := 6) hX dX4_measure_5 (by decide) ?_
      refine zk_icmp_ge (tgt := 99) hX dX4_measure_7 (by decide) (fun c7 => ?_) (fun c7 => ?_)
      rotate_left
      · exact absurd (by decide) c7
      refine zk_vret hX hE rfl ⟨rfl, rfl⟩ dX4_measure_99 ⟨rfl, ?_⟩
      exact ⟨hF, h⟩
    | succ m ih =>
      intro i w1 hi hF h
      have hw1 := zFr_wf hF hw
      have hi6 : i < 6 := by omega
      have hB1 := cBs_f hB hF (by decide)
      have hZ1 : zHas w1 163 Z := zHas_o hZ (hF.2.2.1 163 (by decide))
      generalize e2 : zsi w1 127 i (nI (zmis (bM b i) Z)) = w2
      have hF2 : zFr [127, 128, 129] [] [] w w2 := by rw [← e2]; exact zFr_t hF (zFr_i (by decide) (by decide))
      have hw2 := zFr_wf hF2 hw
      have hB2 := cBs_f hB hF2 (by decide)
      have hZ2 : zHas w2 163 Z := zHas_o hZ (hF2.2.2.1 163 (by decide))
      generalize e3 : zsi w2 128 i (nI (zovr (bM b i) (bY b i) Z)) = w3
      have hF3 : zFr [127, 128, 129] [] [] w w3 := by rw [← e3]; exact zFr_t hF2 (zFr_i (by decide) (by decide))
      have hw3 := zFr_wf hF3 hw
      have hB3 := (cBs_f hB hF3 (by decide) i hi6).2.2
      have stp : ∀ x : Int32, x = nI (zul b mo i) → zk0 G X mX4_measure 3 [.ref 114, .ref 95, .ref 163, .int (zb (mo = true)), .int (nI (i + 1))] [] (zsi w3 129 i x) := by
        intro x hx
        refine ih (i + 1) _ (by omega) (zFr_t hF3 (zFr_i (by decide) (by decide))) (fun k hk => ?_)
        rw [zsi_o (by decide), zsi_o (by decide), zsi_1, ← e3, zsi_o (by decide), zsi_1, zsi_o (by decide), ← e2, zsi_1, zsi_o (by decide), zsi_o (by decide)]
        by_cases q : k = i
        · subst q
          rw [if_pos ⟨rfl, rfl⟩, if_pos ⟨rfl, rfl⟩, if_pos ⟨rfl, rfl⟩]
          exact ⟨rfl, rfl, hx⟩
        · rw [if_neg (fun z => q z.2), if_neg (fun z => q z.2), if_neg (fun z => q z.2)]
          exact h k (by omega)
      have u0 : (bV b i = mo) → (0 : Int32) = nI (zul b mo i) := fun q => by unfold zul; rw [if_pos q]; rfl
      have u1 : ¬ (bV b i = mo) → (1 : Int32) = nI (zul b mo i) := fun q => by unfold zul; rw [if_neg q]; rfl
      refine zk_iload hX dX4_measure_3 rfl ?_
      refine zk_bipush (v := 6) hX dX4_measure_5 (by decide) ?_
      refine zk_icmp_ge (tgt := 99) hX dX4_measure_7 (by decide) (fun c7 => ?_) (fun c7 => ?_)
      · exact absurd c7 (nI_ge (b := 6) (by omega) (by decide))
      refine zk_iload hX dX4_measure_10 rfl ?_
      refine zk_aload_n hX dX4_measure_12 rfl ?_
      refine zk_alen hX dX4_measure_13 k_95 (Or.inr (Or.inr z_95)) rfl ?_
      refine zk_icmp_ge (tgt := 99) hX dX4_measure_14 (by decide) (fun c14 => ?_) (fun c14 => ?_)
      · exact absurd c14 (nI_ge (b := 6) (by omega) (by decide))
      refine zk_aload_n hX dX4_measure_17 rfl ?_
      refine zk_getR hX dX4_measure_18 flX4_26 k_114 z_114 (hw1 _ _ (by decide) |>.trans r_114_6) ?_
      refine zk_iload hX dX4_measure_21 rfl ?_
      refine zk_aload_n hX dX4_measure_23 rfl ?_
      refine zk_iload hX dX4_measure_24 rfl ?_
      refine zk_beasts hX hw1 dX4_measure_26 rfl (by first | assumption | omega) ?_
      refine zk_aload_n hX dX4_measure_27 rfl ?_
      refine zk_getL hX dX4_measure_28 flX4_49 k_163 z_163 ?_
      rw [hZ1.1]
      refine zk_aload_n hX dX4_measure_31 rfl ?_
      refine zk_getL hX dX4_measure_32 flX4_55 k_163 z_163 ?_
      rw [hZ1.2]
      refine zk_V2i hX dX4_measure_35 kcX0_missed mlX4_58 viX0_missed rfl (zBek (by first | assumption | omega)) (zBez _ (by first | assumption | omega)).1 (s_X0_missed hw1 hi6 (hB1 i hi6).1) (Nat.le_of_ble_eq_true rfl) rfl ?_
      refine zk_iastE hX dX4_measure_38 rfl k_127 z_127 (by first | assumption | omega) rfl ?_
      rw [e2]
      refine zk_aload_n hX dX4_measure_39 rfl ?_
      refine zk_getR hX dX4_measure_40 flX4_29 k_114 z_114 (hw2 _ _ (by decide) |>.trans r_114_7) ?_
      refine zk_iload hX dX4_measure_43 rfl ?_
      refine zk_aload_n hX dX4_measure_45 rfl ?_
      refine zk_iload hX dX4_measure_46 rfl ?_
      refine zk_beasts hX hw2 dX4_measure_48 rfl (by first | assumption | omega) ?_
      refine zk_aload_n hX dX4_measure_49 rfl ?_
      refine zk_getL hX dX4_measure_50 flX4_49 k_163 z_163 ?_
      rw [hZ2.1]
      refine zk_aload_n hX dX4_measure_53 rfl ?_
      refine zk_getL hX dX4_measure_54 flX4_55 k_163 z_163 ?_
      rw [hZ2.2]
      refine zk_V2i hX dX4_measure_57 kcX0_over mlX4_63 viX0_over rfl (zBek (by first | assumption | omega)) (zBez _ (by first | assumption | omega)).1 (s_X0_over hw2 hi6 (hB2 i hi6).1) (Nat.le_of_ble_eq_true rfl) rfl ?_
      refine zk_iastE hX dX4_measure_60 rfl k_128 z_128 (by first | assumption | omega) rfl ?_
      rw [e3]
      refine zk_aload_n hX dX4_measure_61 rfl ?_
      refine zk_getR hX dX4_measure_62 flX4_32 k_114 z_114 (hw3 _ _ (by decide) |>.trans r_114_8) ?_
      refine zk_iload hX dX4_measure_65 rfl ?_
      refine zk_aload_n hX dX4_measure_67 rfl ?_
      refine zk_iload hX dX4_measure_68 rfl ?_
      refine zk_beasts hX hw3 dX4_measure_70 rfl (by first | assumption | omega) ?_
      refine zk_getI hX dX4_measure_71 flX4_65 (zBek (by first | assumption | omega)) (zBez _ (by first | assumption | omega)).1 ?_
      refine zk_iconst (v := 1) hX dX4_measure_74 (by decide) ?_
      refine zk_icmp_ne (tgt := 82) hX dX4_measure_75 (by decide) (fun c75 => ?_) (fun c75 => ?_)
      · refine zk_iconst (v := 0) hX dX4_measure_82 (by decide) ?_
        refine zk_iload_n hX dX4_measure_83 rfl ?_
        refine zk_icmp_ne (tgt := 91) hX dX4_measure_84 (by decide) (fun c84 => ?_) (fun c84 => ?_)
        · refine zk_iconst (v := 1) hX dX4_measure_91 (by decide) ?_
          refine zk_iastE hX dX4_measure_92 rfl k_129 z_129 (by first | assumption | omega) rfl ?_
          refine zk_iinc (lo' := [_, _, _, _, _]) hX dX4_measure_93 rfl (by first | exact zinc _ | exact rfl) (Nat.le_of_ble_eq_true rfl) rfl rfl ?_
          refine zk_goto (tgt := 3) hX dX4_measure_96 (by decide) ?_
          refine stp _ ?_
          cases mo with
          | true =>
            first
              | exact u0 (hB3.mp c75)
              | exact u0 (hB3.mp (Decidable.not_not.mp c75))
              | exact u1 (fun q => c75 (hB3.mpr q))
              | exact absurd rfl c84
              | exact absurd c84 (by decide)
              | exact absurd (Decidable.not_not.mp c84) (by decide)
          | false =>
            first
              | exact u1 (fun q => by rw [hB3.mp c75] at q; cases q)
              | exact u1 (fun q => by rw [hB3.mp (Decidable.not_not.mp c75)] at q; cases q)
              | exact u0 (Bool.eq_false_iff.mpr (fun q => c75 (hB3.mpr q)))
              | exact absurd rfl c84
              | exact absurd c84 (by decide)
              | exact absurd (Decidable.not_not.mp c84) (by decide)
        · refine zk_iconst (v := 0) hX dX4_measure_87 (by decide) ?_
          refine zk_goto (tgt := 92) hX dX4_measure_88 (by decide) ?_
          refine zk_iastE hX dX4_measure_92 rfl k_129 z_129 (by first | assumption | omega) rfl ?_
          refine zk_iinc (lo' := [_, _, _, _, _]) hX dX4_measure_93 rfl (by first | exact zinc _ | exact rfl) (Nat.le_of_ble_eq_true rfl) rfl rfl ?_
          refine zk_goto (tgt := 3) hX dX4_measure_96 (by decide) ?_
          refine stp _ ?_
          cases mo with
          | true =>
            first
              | exact u0 (hB3.mp c75)
              | exact u0 (hB3.mp (Decidable.not_not.mp c75))
              | exact u1 (fun q => c75 (hB3.mpr q))
              | exact absurd rfl c84
              | exact absurd c84 (by decide)
              | exact absurd (Decidable.not_not.mp c84) (by decide)
          | false =>
            first
              | exact u1 (fun q => by rw [hB3.mp c75] at q; cases q)
              | exact u1 (fun q => by rw [hB3.mp (Decidable.not_not.mp c75)] at q; cases q)
              | exact u0 (Bool.eq_false_iff.mpr (fun q => c75 (hB3.mpr q)))
              | exact absurd rfl c84
              | exact absurd c84 (by decide)
              | exact absurd (Decidable.not_not.mp c84) (by decide)
      · refine zk_iconst (v := 1) hX dX4_measure_78 (by decide) ?_
        refine zk_goto (tgt := 83) hX dX4_measure_79 (by decide) ?_
        refine zk_iload_n hX dX4_measure_83 rfl ?_
        refine zk_icmp_ne (tgt := 91) hX dX4_measure_84 (by decide) (fun c84 => ?_) (fun c84 => ?_)
        · refine zk_iconst (v := 1) hX dX4_measure_91 (by decide) ?_
          refine zk_iastE hX dX4_measure_92 rfl k_129 z_129 (by first | assumption | omega) rfl ?_
          refine zk_iinc (lo' := [_, _, _, _, _]) hX dX4_measure_93 rfl (by first | exact zinc _ | exact rfl) (Nat.le_of_ble_eq_true rfl) rfl rfl ?_
          refine zk_goto (tgt := 3) hX dX4_measure_96 (by decide) ?_
          refine stp _ ?_
          cases mo with
          | true =>
            first
              | exact u0 (hB3.mp c75)
              | exact u0 (hB3.mp (Decidable.not_not.mp c75))
              | exact u1 (fun q => c75 (hB3.mpr q))
              | exact absurd rfl c84
              | exact absurd c84 (by decide)
              | exact absurd (Decidable.not_not.mp c84) (by decide)
          | false =>
            first
              | exact u1 (fun q => by rw [hB3.mp c75] at q; cases q)
              | exact u1 (fun q => by rw [hB3.mp (Decidable.not_not.mp c75)] at q; cases q)
              | exact u0 (Bool.eq_false_iff.mpr (fun q => c75 (hB3.mpr q)))
              | exact absurd rfl c84
              | exact absurd c84 (by decide)
              | exact absurd (Decidable.not_not.mp c84) (by decide)
        · refine zk_iconst (v := 0) hX dX4_measure_87 (by decide) ?_
          refine zk_goto (tgt := 92) hX dX4_measure_88 (by decide) ?_
          refine zk_iastE hX dX4_measure_92 rfl k_129 z_129 (by first | assumption | omega) rfl ?_
          refine zk_iinc (lo' := [_, _, _, _, _]) hX dX4_measure_93 rfl (by first | exact zinc _ | exact rfl) (Nat.le_of_ble_eq_true rfl) rfl rfl ?_
          refine zk_goto (tgt := 3) hX dX4_measure_96 (by decide) ?_
          refine stp _ ?_
          cases mo with
          | true =>
            first
              | exact u0 (hB3.mp c75)
              | exact u0 (hB3.mp (Decidable.not_not.mp c75))
              | exact u1 (fun q => c75 (hB3.mpr q))
              | exact absurd rfl c84
              | exact absurd c84 (by decide)
              | exact absurd (Decidable.not_not.mp c84) (by decide)
          | false =>
            first
              | exact u1 (fun q => by rw [hB3.mp c75] at q; cases q)
              | exact u1 (fun q => by rw [hB3.mp (Decidable.not_not.mp c75)] at q; cases q)
              | exact u0 (Bool.eq_false_iff.mpr (fun q => c75 (hB3.mpr q)))
              | exact absurd rfl c84
              | exact absurd c84 (by decide)
              | exact absurd (Decidable.not_not.mp c84) (by decide)
  refine zk_iconst (v := 0) hX dX4_measure_0 (by decide) ?_
  refine zk_istore (lo' := [_, _, _, _, _]) hX dX4_measure_1 (Nat.le_of_ble_eq_true rfl) rfl rfl ?_
  exact loop 6 0 w (by omega) zFr_r (fun k hk => absurd hk (by omega))
theorem s_X4_guessBy {G : zG} {w : zW} {b : zBd} {Z : zS} {mo : Bool} {e a d : Nat} (hw : zWf w) (hB : cBs w b) (hMe : cMe w b Z mo) (he : e ≤ 9) (ha : a ≤ 9) (hd : d ≤ 9) :
    zCi G mX4_guessBy [.ref 114, .ref 95, .int (nI e), .int (nI a), .int (nI d)] w (fun r w' => r = zoe (zgs b Z mo e a d) ∧ zFr [114] [] [] w w' ∧ (∀ i, i ≠ 9 → w'.1 114 i = w.1 114 i) ∧ ∀ q, zgs b Z mo e a d = some q → w'.1 114 9 = nI (zsw b Z mo e a d q)) := by
  unfold zgs
  generalize eF : zsw b Z mo e a d = F
  have hF4 : ∀ k, F k ≤ 4000 := fun k => by rw [← eF]; exact zsw_le he ha hd
  refine zC_of (lo := [_, _, _, _, _, _, _, _]) kcX4_guessBy (Nat.le_of_ble_eq_true rfl) rfl (fun X hX hE => ?_)
  have loop : ∀ m i w1 (a7 : Value), i + m = 6 → zFr [114] [] [] w w1 → (∀ i, i ≠ 9 → w1.1 114 i = w.1 114 i) → (∀ q, zbst (bT b) F i = some q → w1.1 114 9 = nI (F q)) → zk0 G X mX4_guessBy 7 [.ref 114, .ref 95, .int (nI e), .int (nI a), .int (nI d), .int (zoe (zbst (bT b) F i)), .int (nI i), a7] [] w1 := by
    intro m
    induction m with
    | zero =>
      intro i w1 a7 hi hF h1 h2
      obtain rfl : i = 6 := by omega
      have hw1 := zFr_wf hF hw
      refine zk_iload hX dX4_guessBy_7 rfl ?_
      refine zk_bipush (v := 6) hX dX4_guessBy_9 (by decide) ?_
      refine zk_icmp_ge (tgt := 98) hX dX4_guessBy_11 (by decide) (fun c11 => ?_) (fun c11 => ?_)
      rotate_left
      · exact absurd (by decide) c11
      refine zk_iload hX dX4_guessBy_98 rfl ?_
      refine zk_iret hX hE rfl ⟨rfl, rfl⟩ dX4_guessBy_100 ⟨_, rfl, ?_⟩
      exact ⟨rfl, hF, h1, h2⟩
    | succ m ih =>
      intro i w1 a7 hi hF h1 h2
      have hw1 := zFr_wf hF hw
      have hi6 : i < 6 := by omega
      have hBi := (cBs_f hB hF (by decide) i hi6).2.1
      have g1 : w1.1 127 i = nI (zmis (bM b i) Z) := by rw [hF.2.1 127 (by decide) (by decide)]; exact (hMe i hi6).1
      have g2 : w1.1 128 i = nI (zovr (bM b i) (bY b i) Z) := by rw [hF.2.1 128 (by decide) (by decide)]; exact (hMe i hi6).2.1
      have g3 : w1.1 129 i = nI (zul b mo i) := by rw [hF.2.1 129 (by decide) (by decide)]; exact (hMe i hi6).2.2
      have g4 : e * zmis (bM b i) Z + a * zovr (bM b i) (bY b i) Z + d * zul b mo i = F i := by rw [← eF]; rfl
      have h9 := fun w2 a7 => ih (i + 1) w2 a7 (by omega)
      have f1 := hF4 i
      have put : ∀ (a7 : Value), zbst (bT b) F (i + 1) = some i → zk0 G X mX4_guessBy 7 [.ref 114, .ref 95, .int (nI e), .int (nI a), .int (nI d), .int (nI i), .int (nI (i + 1)), a7] [] (zsi w1 114 9 (nI (F i))) := by
        intro a7 q
        have h8 := h9 (zsi w1 114 9 (nI (F i))) a7 (zFr_t hF (zFr_i (by decide) (by decide))) (fun j hj => by rw [zsi_1, if_neg (fun z => hj z.2)]; exact h1 j hj) (fun r hr => by
          rw [q] at hr
          cases hr
          rw [zsi_1, if_pos ⟨rfl, rfl⟩])
        rw [q] at h8
        exact h8
      by_cases ht : bT b i = true
      · rcases zbst_ok (bT b) F i with ⟨en, _⟩ | ⟨c, en, _⟩
        · have en1 := zbst_n ht en
          rw [en]
          refine zk_iload hX dX4_guessBy_7 rfl ?_
          refine zk_bipush (v := 6) hX dX4_guessBy_9 (by decide) ?_
          refine zk_icmp_ge (tgt := 98) hX dX4_guessBy_11 (by decide) (fun c11 => ?_) (fun c11 => ?_)
          · exact absurd c11 (nI_ge (b := 6) (by omega) (by decide))
          refine zk_iload hX dX4_guessBy_14 rfl ?_
          refine zk_aload_n hX dX4_guessBy_16 rfl ?_
          refine zk_alen hX dX4_guessBy_17 k_95 (Or.inr (Or.inr z_95)) rfl ?_
          refine zk_icmp_ge (tgt := 98) hX dX4_guessBy_18 (by decide) (fun c18 => ?_) (fun c18 => ?_)
          · exact absurd c18 (nI_ge (b := 6) (by omega) (by decide))
          refine zk_aload_n hX dX4_guessBy_21 rfl ?_
          refine zk_iload hX dX4_guessBy_22 rfl ?_
          refine zk_beasts hX hw1 dX4_guessBy_24 rfl (by first | assumption | omega) ?_
          refine zk_getI hX dX4_guessBy_25 flX4_68 (zBek (by first | assumption | omega)) (zBez _ (by first | assumption | omega)).1 ?_
          refine zk_if_ne (tgt := 34) hX dX4_guessBy_28 (by decide) (fun c28 => ?_) (fun c28 => ?_)
          rotate_left
          · exact absurd c28 (hBi.mpr ht)
          refine zk_iload_n hX dX4_guessBy_34 rfl ?_
          refine zk_aload_n hX dX4_guessBy_35 rfl ?_
          refine zk_getR hX dX4_guessBy_36 flX4_26 k_114 z_114 (hw1 _ _ (by decide) |>.trans r_114_6) ?_
          refine zk_iload hX dX4_guessBy_39 rfl ?_
          refine zk_ialdE hX dX4_guessBy_41 rfl k_127 z_127 (by first | assumption | omega) rfl ?_
          rw [g1]
          refine zk_imul hX dX4_guessBy_42 ?_
          refine zk_iload_n hX dX4_guessBy_43 rfl ?_
          refine zk_aload_n hX dX4_guessBy_44 rfl ?_
          refine zk_getR hX dX4_guessBy_45 flX4_29 k_114 z_114 (hw1 _ _ (by decide) |>.trans r_114_7) ?_
          refine zk_iload hX dX4_guessBy_48 rfl ?_
          refine zk_ialdE hX dX4_guessBy_50 rfl k_128 z_128 (by first | assumption | omega) rfl ?_
          rw [g2]
          refine zk_imul hX dX4_guessBy_51 ?_
          refine zk_iadd hX dX4_guessBy_52 ?_
          refine zk_iload hX dX4_guessBy_53 rfl ?_
          refine zk_aload_n hX dX4_guessBy_55 rfl ?_
          refine zk_getR hX dX4_guessBy_56 flX4_32 k_114 z_114 (hw1 _ _ (by decide) |>.trans r_114_8) ?_
          refine zk_iload hX dX4_guessBy_59 rfl ?_
          refine zk_ialdE hX dX4_guessBy_61 rfl k_129 z_129 (by first | assumption | omega) rfl ?_
          rw [g3]
          refine zk_imul hX dX4_guessBy_62 ?_
          refine zk_iadd hX dX4_guessBy_63 ?_
          rw [nI_mul, nI_mul, nI_mul, nI_add, nI_add, g4]
          refine zk_istore (lo' := [_, _, _, _, _, _, _, _]) hX dX4_guessBy_64 (Nat.le_of_ble_eq_true rfl) rfl rfl ?_
          refine zk_iload hX dX4_guessBy_66 rfl ?_
          refine zk_bipush (v := -9) hX dX4_guessBy_68 (by decide) ?_
          refine zk_icmp_eq (tgt := 82) hX dX4_guessBy_70 (by decide) (fun c70 => ?_) (fun c70 => ?_)
          rotate_left
          · exact absurd rfl c70
          refine zk_iload hX dX4_guessBy_82 rfl ?_
          refine zk_istore (lo' := [_, _, _, _, _, _, _, _]) hX dX4_guessBy_84 (Nat.le_of_ble_eq_true rfl) rfl rfl ?_
          refine zk_aload_n hX dX4_guessBy_86 rfl ?_
          refine zk_iload hX dX4_guessBy_87 rfl ?_
          refine zk_putI hX dX4_guessBy_89 plX4_72 (fun h => by cases h) k_114 z_114 rfl rfl ?_
          refine zk_iinc (lo' := [_, _, _, _, _, _, _, _]) hX dX4_guessBy_92 rfl (by first | exact zinc _ | exact rfl) (Nat.le_of_ble_eq_true rfl) rfl rfl ?_
          refine zk_goto (tgt := 7) hX dX4_guessBy_95 (by decide) ?_
          exact put _ en1
        · have en1 := zbst_s ht en
          have f2 := hF4 c
          have e9 := h2 c en
          rw [en]
          refine zk_iload hX dX4_guessBy_7 rfl ?_
          refine zk_bipush (v := 6) hX dX4_guessBy_9 (by decide) ?_
          refine zk_icmp_ge (tgt := 98) hX dX4_guessBy_11 (by decide) (fun c11 => ?_) (fun c11 => ?_)
          · exact absurd c11 (nI_ge (b := 6) (by omega) (by decide))
          refine zk_iload hX dX4_guessBy_14 rfl ?_
          refine zk_aload_n hX dX4_guessBy_16 rfl ?_
          refine zk_alen hX dX4_guessBy_17 k_95 (Or.inr (Or.inr z_95)) rfl ?_
          refine zk_icmp_ge (tgt := 98) hX dX4_guessBy_18 (by decide) (fun c18 => ?_) (fun c18 => ?_)
          · exact absurd c18 (nI_ge (b := 6) (by omega) (by decide))
          refine zk_aload_n hX dX4_guessBy_21 rfl ?_
          refine zk_iload hX dX4_guessBy_22 rfl ?_
          refine zk_beasts hX hw1 dX4_guessBy_24 rfl (by first | assumption | omega) ?_
          refine zk_getI hX dX4_guessBy_25 flX4_68 (zBek (by first | assumption | omega)) (zBez _ (by first | assumption | omega)).1 ?_
          refine zk_if_ne (tgt := 34) hX dX4_guessBy_28 (by decide) (fun c28 => ?_) (fun c28 => ?_)
          rotate_left
          · exact absurd c28 (hBi.mpr ht)
          refine zk_iload_n hX dX4_guessBy_34 rfl ?_
          refine zk_aload_n hX dX4_guessBy_35 rfl ?_
          refine zk_getR hX dX4_guessBy_36 flX4_26 k_114 z_114 (hw1 _ _ (by decide) |>.trans r_114_6) ?_
          refine zk_iload hX dX4_guessBy_39 rfl ?_
          refine zk_ialdE hX dX4_guessBy_41 rfl k_127 z_127 (by first | assumption | omega) rfl ?_
          rw [g1]
          refine zk_imul hX dX4_guessBy_42 ?_
          refine zk_iload_n hX dX4_guessBy_43 rfl ?_
          refine zk_aload_n hX dX4_guessBy_44 rfl ?_
          refine zk_getR hX dX4_guessBy_45 flX4_29 k_114 z_114 (hw1 _ _ (by decide) |>.trans r_114_7) ?_
          refine zk_iload hX dX4_guessBy_48 rfl ?_
          refine zk_ialdE hX dX4_guessBy_50 rfl k_128 z_128 (by first | assumption | omega) rfl ?_
          rw [g2]
          refine zk_imul hX dX4_guessBy_51 ?_
          refine zk_iadd hX dX4_guessBy_52 ?_
          refine zk_iload hX dX4_guessBy_53 rfl ?_
          refine zk_aload_n hX dX4_guessBy_55 rfl ?_
          refine zk_getR hX dX4_guessBy_56 flX4_32 k_114 z_114 (hw1 _ _ (by decide) |>.trans r_114_8) ?_
          refine zk_iload hX dX4_guessBy_59 rfl ?_
          refine zk_ialdE hX dX4_guessBy_61 rfl k_129 z_129 (by first | assumption | omega) rfl ?_
          rw [g3]
          refine zk_imul hX dX4_guessBy_62 ?_
          refine zk_iadd hX dX4_guessBy_63 ?_
          rw [nI_mul, nI_mul, nI_mul, nI_add, nI_add, g4]
          refine zk_istore (lo' := [_, _, _, _, _, _, _, _]) hX dX4_guessBy_64 (Nat.le_of_ble_eq_true rfl) rfl rfl ?_
          refine zk_iload hX dX4_guessBy_66 rfl ?_
          refine zk_bipush (v := -9) hX dX4_guessBy_68 (by decide) ?_
          refine zk_icmp_eq (tgt := 82) hX dX4_guessBy_70 (by decide) (fun c70 => ?_) (fun c70 => ?_)
          · exact absurd c70 (nI_n9 (by have := zbst_lt en; omega))
          refine zk_iload hX dX4_guessBy_73 rfl ?_
          refine zk_aload_n hX dX4_guessBy_75 rfl ?_
          refine zk_getI hX dX4_guessBy_76 flX4_72 k_114 z_114 ?_
          rw [e9]
          refine zk_icmp_ge (tgt := 92) hX dX4_guessBy_79 (by decide) (fun c79 => ?_) (fun c79 => ?_)
          · refine zk_iinc (lo' := [_, _, _, _, _, _, _, _]) hX dX4_guessBy_92 rfl (by first | exact zinc _ | exact rfl) (Nat.le_of_ble_eq_true rfl) rfl rfl ?_
            refine zk_goto (tgt := 7) hX dX4_guessBy_95 (by decide) ?_
            first
            | (have q := nI_leD c79 (by omega) (by omega)
               rw [if_neg (by omega)] at en1
               have h8 := h9 w1 (.int (nI (F i))) hF h1 (fun r hr => by rw [en1] at hr; cases hr; exact e9)
               rw [en1] at h8
               exact h8)
            | (have q := nI_ltD c79 (by omega) (by omega)
               rw [if_pos (by omega)] at en1
               exact put _ en1)
          · refine zk_iload hX dX4_guessBy_82 rfl ?_
            refine zk_istore (lo' := [_, _, _, _, _, _, _, _]) hX dX4_guessBy_84 (Nat.le_of_ble_eq_true rfl) rfl rfl ?_
            refine zk_aload_n hX dX4_guessBy_86 rfl ?_
            refine zk_iload hX dX4_guessBy_87 rfl ?_
            refine zk_putI hX dX4_guessBy_89 plX4_72 (fun h => by cases h) k_114 z_114 rfl rfl ?_
            refine zk_iinc (lo' := [_, _, _, _, _, _, _, _]) hX dX4_guessBy_92 rfl (by first | exact zinc _ | exact rfl) (Nat.le_of_ble_eq_true rfl) rfl rfl ?_
            refine zk_goto (tgt := 7) hX dX4_guessBy_95 (by decide) ?_
            first
            | (have q := nI_leD c79 (by omega) (by omega)
               rw [if_neg (by omega)] at en1
               have h8 := h9 w1 (.int (nI (F i))) hF h1 (fun r hr => by rw [en1] at hr; cases hr; exact e9)
               rw [en1] at h8
               exact h8)
            | (have q := nI_ltD c79 (by omega) (by omega)
               rw [if_pos (by omega)] at en1
               exact put _ en1)
      · have en1 := zbst_f (f := F) ht
        refine zk_iload hX dX4_guessBy_7 rfl ?_
        refine zk_bipush (v := 6) hX dX4_guessBy_9 (by decide) ?_
        refine zk_icmp_ge (tgt := 98) hX dX4_guessBy_11 (by decide) (fun c11 => ?_) (fun c11 => ?_)
        · exact absurd c11 (nI_ge (b := 6) (by omega) (by decide))
        refine zk_iload hX dX4_guessBy_14 rfl ?_
        refine zk_aload_n hX dX4_guessBy_16 rfl ?_
        refine zk_alen hX dX4_guessBy_17 k_95 (Or.inr (Or.inr z_95)) rfl ?_
        refine zk_icmp_ge (tgt := 98) hX dX4_guessBy_18 (by decide) (fun c18 => ?_) (fun c18 => ?_)
        · exact absurd c18 (nI_ge (b := 6) (by omega) (by decide))
        refine zk_aload_n hX dX4_guessBy_21 rfl ?_
        refine zk_iload hX dX4_guessBy_22 rfl ?_
        refine zk_beasts hX hw1 dX4_guessBy_24 rfl (by first | assumption | omega) ?_
        refine zk_getI hX dX4_guessBy_25 flX4_68 (zBek (by first | assumption | omega)) (zBez _ (by first | assumption | omega)).1 ?_
        refine zk_if_ne (tgt := 34) hX dX4_guessBy_28 (by decide) (fun c28 => ?_) (fun c28 => ?_)
        · exact absurd c28 (fun q => ht (hBi.mp q))
        refine zk_goto (tgt := 92) hX dX4_guessBy_31 (by decide) ?_
        refine zk_iinc (lo' := [_, _, _, _, _, _, _, _]) hX dX4_guessBy_92 rfl (by first | exact zinc _ | exact rfl) (Nat.le_of_ble_eq_true rfl) rfl rfl ?_
        refine zk_goto (tgt := 7) hX dX4_guessBy_95 (by decide) ?_
        have h8 := h9 w1 a7 hF h1 (by rw [en1]; exact h2)
        rw [en1] at h8
        exact h8
  refine zk_bipush (v := -9) hX dX4_guessBy_0 (by decide) ?_
  refine zk_istore (lo' := [_, _, _, _, _, _, _, _]) hX dX4_guessBy_2 (Nat.le_of_ble_eq_true rfl) rfl rfl ?_
  refine zk_iconst (v := 0) hX dX4_guessBy_4 (by decide) ?_
  refine zk_istore (lo' := [_, _, _, _, _, _, _, _]) hX dX4_guessBy_5 (Nat.le_of_ble_eq_true rfl) rfl rfl ?_
  exact loop 6 0 w _ (by omega) zFr_r (fun _ _ => rfl) (fun q hq => by cases hq)
