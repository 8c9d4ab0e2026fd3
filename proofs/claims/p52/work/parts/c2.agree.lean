/-! the two agree, and what the law asks of one -/
theorem nI_or (a b : Nat) : nI a ||| nI b = nI (a ||| b) := by
  apply Int32.toBitVec_inj.mp
  rw [Int32.toBitVec_or, nI_bv, nI_bv, nI_bv, BitVec.ofNat_or]
theorem tb1 : ∀ i, Nat.testBit 1 i = decide (i = 0)
  | 0 => rfl
  | i + 1 => by
    rw [Nat.testBit_succ]
    simp
section AGR
variable {D D' : zD} {T c e : Nat} {M M' Y Y' : zS}
theorem m_many (hD : zDok D) (hM : zMir D D') : zcnt (mQ D' (-1) T) (nT D') = zcnt (mQ D (-1) T) (nT D) := by
  show zcnt _ (zpr (zsp D') (dJ D')) = _
  rw [zprN_g hM]
  exact zcnt_g (fun i hi => mQ_g hD hM hi)
theorem m_str (hD : zDok D) (hM : zMir D D') : zcnt (mSt D' T) (nT D') = zcnt (mSt D T) (nT D) := by
  show zcnt _ (zpr (zsp D') (dJ D')) = _
  rw [zprN_g hM]
  exact zcnt_g (fun i hi => mSt_g hD hM hi)
theorem m_near (hD : zDok D) (hM : zMir D D') (hm : ∀ c, c < 120 → M' c = gS M c) (hy : ∀ c, c < 120 → Y' c = gS Y c) : zmn (mQ D' (-1) T) (mF D' (-1) 1 3 3 M' Y') (nT D') = zmn (mQ D (-1) T) (mF D (-1) 1 3 3 M Y) (nT D) := by
  show zmn _ _ (zpr (zsp D') (dJ D')) = _
  rw [zprN_g hM]
  exact zmn_rev (fun i hi => mQ_g hD hM hi) (fun i hi => mF_g hD hM hm hy hi)
theorem m_never (hD : zDok D) (hM : zMir D D') (hm : ∀ c, c < 120 → M' c = gS M c) : zcard (zdiff M' (zev D' 1 3 3 T)) = zcard (zdiff M (zev D 1 3 3 T)) := by
  rw [zev_g hD hM, ← zcard_g (zdiff M (zev D 1 3 3 T))]
  exact zcard_c (fun c hc => by unfold zdiff; rw [hm c hc]; rfl)
theorem rHs_g (hD : zDok D) (hD' : zDok D') (hM : zMir D D') {j : Nat} (hj : j < dJ D) : ∀ i, i < nT D → rHs D' T j (nT D - 1 - i) = rHs D T j i := fun i hi => by
  unfold rHs
  rw [rH_code hD' (by rw [zprN_g hM]; show nT D - 1 - i < nT D; omega), rH_code hD hi, mQ_g hD hM hi]
  congr 1
  rw [(zcode_g hD hM hi j hj).2]
  refine decide_eq_decide.mpr ⟨fun q => ?_, fun q => ?_⟩
  · grind
  · grind
theorem m_stiff (hD : zDok D) (hD' : zDok D') (hM : zMir D D') (hm : ∀ c, c < 120 → M' c = gS M c) (hy : ∀ c, c < 120 → Y' c = gS Y c) {j : Nat} (hj : j < dJ D) : zmn (rHs D' T j) (mF D' (-1) 1 3 3 M' Y') (nT D') = zmn (rHs D T j) (mF D (-1) 1 3 3 M Y) (nT D) := by
  show zmn _ _ (zpr (zsp D') (dJ D')) = _
  rw [zprN_g hM]
  exact zmn_rev (rHs_g hD hD' hM hj) (fun i hi => mF_g hD hM hm hy hi)
theorem mQ_mono {T T' i : Nat} (h : T ≤ T') (q : mQ D (-1) T i = true) : mQ D (-1) T' i = true := by
  obtain ⟨q1, q2⟩ := zkd_1.mp (of_decide_eq_true q)
  exact decide_eq_true (zkd_1.mpr ⟨q1, by omega⟩)
theorem many_mono {T T' : Nat} (h : T ≤ T') : zcnt (mQ D (-1) T) (nT D) ≤ zcnt (mQ D (-1) T') (nT D) := zcnt_le2 (fun _ _ q => mQ_mono h q)
theorem near_b {m : Nat} (h : zmn (mQ D (-1) T) (mF D (-1) 1 3 3 M Y) (nT D) = some m) : zcard (zdiff M (zev D 1 3 3 T)) ≤ m ∧ m ≤ 240 ∧ 0 < zcnt (mQ D (-1) T) (nT D) := by
  unfold zmn at h
  rcases zbst_ok (mQ D (-1) T) (mF D (-1) 1 3 3 M Y) (nT D) with ⟨e, g⟩ | ⟨b, e, g1, g2, g3⟩
  · rw [e] at h
    cases h
  · rw [e] at h
    have h9 : mF D (-1) 1 3 3 M Y b = m := Option.some.inj h
    rw [← h9]
    have h3 : zcard (zdiff M (zev D 1 3 3 T)) ≤ zcard (zdiff M (mS D (-1) 1 3 3 b)) := zcard_le2 (fun c _ q => by
      unfold zdiff at q ⊢
      simp only [Bool.and_eq_true, Bool.not_eq_true'] at q ⊢
      refine ⟨q.1, ?_⟩
      rcases hb : mS D (-1) 1 3 3 b c with _ | _
      · rfl
      · have : zev D 1 3 3 T c = true := zuni_m.mpr ⟨b, g1, g2, hb⟩
        rw [this] at q
        exact absurd q.2 (by decide))
    refine ⟨Nat.le_trans h3 (Nat.le_add_right _ _), zofB_le _ _ _, ?_⟩
    rcases Nat.eq_zero_or_pos (zcnt (mQ D (-1) T) (nT D)) with z | z
    · exact absurd g2 (zcnt_0.mp z b g1)
    · exact z
theorem near_n (h : zmn (mQ D (-1) T) (mF D (-1) 1 3 3 M Y) (nT D) = none) : zcnt (mQ D (-1) T) (nT D) = 0 := by
  unfold zmn at h
  rcases zbst_ok (mQ D (-1) T) (mF D (-1) 1 3 3 M Y) (nT D) with ⟨e, g⟩ | ⟨b, e, g1, g2, g3⟩
  · exact zcnt_0.mpr g
  · rw [e] at h
    cases h
theorem stiff_b (hD : zDok D) {j a : Nat} (h : zmn (rHs D T j) (mF D (-1) 1 3 3 M Y) (nT D) = some a) : a ≤ 240 ∧ ∃ b, zmn (mQ D (-1) T) (mF D (-1) 1 3 3 M Y) (nT D) = some b ∧ b ≤ a := by
  unfold zmn at h
  rcases zbst_ok (rHs D T j) (mF D (-1) 1 3 3 M Y) (nT D) with ⟨e, g⟩ | ⟨b, e, g1, g2, g3⟩
  · rw [e] at h
    cases h
  · rw [e] at h
    have h9 : mF D (-1) 1 3 3 M Y b = a := Option.some.inj h
    rw [← h9]
    refine ⟨zofB_le _ _ _, zmn_le g1 ?_⟩
    unfold rHs at g2
    rw [Bool.and_eq_true, rH_code hD g1] at g2
    exact g2.1
/-! a pose and its image -/
theorem kd_g (hD : zDok D) (hM : zMir D D') (hc : c < nT D) : zkd D' (zcode_t D' (nT D - 1 - c)) (-1) T = zkd D (zcode_t D c) (-1) T := zkd_g hD hM (zcode_g hD hM hc) T
theorem ld_g (hD : zDok D) (hM : zMir D D') (hc : c < nT D) : zldo D' (zcode_t D' (nT D - 1 - c)) (-1) (dJ D') = zldo D (zcode_t D c) (-1) (dJ D) := zldo_g hM (zcode_g hD hM hc)
theorem card_g (hD : zDok D) (hM : zMir D D') (hc : c < nT D) : zcard (mS D' (-1) 1 3 3 (nT D - 1 - c)) = zcard (mS D (-1) 1 3 3 c) := by
  rw [mS_g hD hM hc, zcard_g]
theorem off_g (hD : zDok D) (hM : zMir D D') (hm : ∀ c, c < 120 → M' c = gS M c) (hy : ∀ c, c < 120 → Y' c = gS Y c) (hc : c < nT D) : zofB M' Y' (mS D' (-1) 1 3 3 (nT D - 1 - c)) = zofB M Y (mS D (-1) 1 3 3 c) := by
  rw [mS_g hD hM hc]
  exact zofB_g hm hy
theorem zgl_bit (s x : Nat) : (zgl s).testBit x = (decide (x < 12) && s.testBit (11 - x)) := zbits_bit _ 12 x
theorem line_g (S : zS) {y : Nat} : zline (gS S) y = zgl (zline S y) := by
  unfold zline zgl
  refine zbits_c (fun x hx => ?_)
  rw [zbits_bit, decide_eq_true (show 11 - x < 12 by omega), Bool.true_and]
  show S (mC (12 * y + x)) = S (12 * y + (11 - x))
  exact congrArg S (by unfold mC; omega)
theorem lineS_g (hD : zDok D) (hM : zMir D D') (hc : c < nT D) {y : Nat} : zline (mS D' (-1) 1 3 3 (nT D - 1 - c)) y = zgl (zline (mS D (-1) 1 3 3 c) y) := by
  rw [mS_g hD hM hc, line_g]
theorem zofL_g {f f' : Nat → Nat} (h : ∀ y, y < 10 → f' y = zgl (f y)) : ∀ c, c < 120 → zofL f' c = gS (zofL f) c := fun c hc => by
  show (f' (c / 12)).testBit (c % 12) = (f (mC c / 12)).testBit (mC c % 12)
  rw [h _ (by omega), zgl_bit, decide_eq_true (show c % 12 < 12 by omega), Bool.true_and]
  have e1 : mC c / 12 = c / 12 := by unfold mC; omega
  have e2 : mC c % 12 = 11 - c % 12 := by unfold mC; omega
  rw [e1, e2]
theorem nI_sar {a k : Nat} (ha : a < 2 ^ 31) (hk : k < 32) : nI a >>> (nI k &&& 31) = nI (a >>> k) := by
  apply Int32.toBitVec_inj.mp
  rw [Int32.toBitVec_shiftRight, nI_bv, nI_bv, Int32.toBitVec_and, nI_bv]
  have e1 : (BitVec.ofNat 32 k &&& (31 : Int32).toBitVec) = BitVec.ofNat 32 k := by
    have key : ∀ k, k < 32 → (BitVec.ofNat 32 k &&& (31 : Int32).toBitVec) = BitVec.ofNat 32 k := by decide +kernel
    exact key k hk
  have e2 : (BitVec.ofNat 32 k).smod 32 = BitVec.ofNat 32 k := by
    have key : ∀ k, k < 32 → (BitVec.ofNat 32 k).smod 32 = BitVec.ofNat 32 k := by decide +kernel
    exact key k hk
  rw [e1, e2]
  show BitVec.sshiftRight _ (BitVec.ofNat 32 k).toNat = _
  rw [BitVec.sshiftRight_eq_of_msb_false (by
    rw [BitVec.msb_eq_decide, BitVec.toNat_ofNat, Nat.mod_eq_of_lt (by omega)]
    exact decide_eq_false (by omega)), BitVec.toNat_ofNat, Nat.mod_eq_of_lt (by omega)]
  apply BitVec.eq_of_toNat_eq
  rw [BitVec.toNat_ushiftRight, BitVec.toNat_ofNat, BitVec.toNat_ofNat, Nat.mod_eq_of_lt (by omega), Nat.shiftRight_eq_div_pow, Nat.mod_eq_of_lt (Nat.lt_of_le_of_lt (Nat.div_le_self _ _) (by omega))]
theorem zgl_I {s : Nat} (hs : s < 4096) : zglI (nI s) 12 = nI (zgl s) := by
  have step : ∀ k, k ≤ 12 → zglI (nI s) k = nI (zbits (fun x => decide (11 - x < k) && s.testBit (11 - x)) 12) := by
    intro k
    induction k with
    | zero =>
      intro _
      show (0 : Int32) = nI _
      have e : zbits (fun x => decide (11 - x < 0) && s.testBit (11 - x)) 12 = 0 := by
        rw [zbits_c (R := fun _ => false) (fun x hx => by rw [decide_eq_false (Nat.not_lt_zero _)]; rfl)]
        exact zbits_0 12
      rw [e]
      rfl
    | succ k ih =>
      intro hk
      show zglI (nI s) k ||| ((nI s >>> (nI k &&& 31)) &&& 1) <<< ((11 - nI k) &&& 31) = _
      rw [ih (by omega), nI_sar (by omega) (by omega), show (1 : Int32) = nI 1 from rfl, nI_and, ← nI_11 (show k ≤ 11 by omega), nI_shl _ (by omega), nI_or]
      congr 1
      apply Nat.eq_of_testBit_eq
      intro x
      rw [Nat.testBit_or, zbits_bit, zbits_bit, Nat.testBit_shiftLeft, Nat.testBit_and, Nat.testBit_shiftRight, tb1]
      by_cases h1 : x < 12
      · rw [decide_eq_true h1, Bool.true_and, Bool.true_and]
        by_cases h2 : 11 - x = k
        · have h3 : x = 11 - k := by omega
          subst h3
          rw [decide_eq_false (show ¬ 11 - (11 - k) < k by omega), decide_eq_true (show 11 - (11 - k) < k + 1 by omega), decide_eq_true (show 11 - k ≥ 11 - k by omega), Nat.sub_self, h2]
          simp
        · by_cases h4 : 11 - x < k
          · rw [decide_eq_true h4, decide_eq_true (show 11 - x < k + 1 by omega)]
            have h5 : decide (x - (11 - k) = 0) = false ∨ ¬ x ≥ 11 - k := by
              rcases Nat.lt_or_ge x (11 - k) with z | z
              · exact Or.inr (by omega)
              · exact Or.inl (decide_eq_false (by omega))
            simp [h5]
            omega
          · rw [decide_eq_false h4, decide_eq_false (show ¬ 11 - x < k + 1 by omega), decide_eq_false (show ¬ x ≥ 11 - k by omega)]
            rfl
      · rw [decide_eq_false h1, decide_eq_false (show ¬ x - (11 - k) = 0 by omega)]
        simp
  rw [step 12 (Nat.le_refl _)]
  refine congrArg nI ?_
  exact zbits_c (fun x hx => by rw [decide_eq_true (show 11 - x < 12 by omega)]; rfl)
end AGR
