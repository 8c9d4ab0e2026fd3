/-- the law's numbers of hands -/
def aH (f : Nat → Int32) (D : zD) : Prop := (f 0 = nI (dW D) ∧ f 3 = nI (dF D) ∧ f 4 = nI (dJ D)) ∧ (∀ h, h < dW D → f (1 + h) = nI (dw D h)) ∧
  (∀ g, g < dF D → f (8 + 4 * g) = nI (dO D g) ∧ f (9 + 4 * g) = nI (dS D g) ∧ f (10 + 4 * g) = nI (dI D g) ∧ f (11 + 4 * g) = nI (dL D g)) ∧
  ∀ j, j < dJ D → f (40 + 3 * j) = nI (dH D j) ∧ f (41 + 3 * j) = nI (dB D j) ∧ f (42 + 3 * j) = nI (dA D j)
section ZH
variable {G : zG} {n : Nat} {Wd : Bool → zW} {a3 : zA3} {b : Bool} {D : zD}
theorem zpr_cut {sp : Nat → Nat} {m i : Nat} (hp : ∀ j, j < m → 0 < sp j) (hi : i ≤ m) : zpr sp i ≤ zpr sp m := by
  induction m with
  | zero =>
    obtain rfl : i = 0 := by omega
    exact Nat.le_refl _
  | succ m ih =>
    rcases Nat.lt_or_ge m i with h | h
    · obtain rfl : i = m + 1 := by omega
      exact Nat.le_refl _
    · exact Nat.le_trans (ih (fun j hj => hp j (by omega)) h) (Nat.le_mul_of_pos_right _ (hp m (by omega)))
theorem s_L_all {k : Nat} (hk : zAr n k 64) (hA : aH (a3 k) D) (hD : zDok D) : zDi G n mL_all [.ref k] Wd a3 (fun r Wd1 a1 => (Wd1 = Wd ∧ a1 = a3) ∧ r = nI (zpr (zsp D) (dJ D))) := by
  have hJ6 := hD.1.2.2
  refine zC_of (lo := [_, _, _]) kcL_all (Nat.le_of_ble_eq_true rfl) rfl (fun X hX hE => ?_)
  have loop : ∀ z i, i + z = dJ D → zk G X mL_all n 0 0 4 [.ref k, .int (nI (zpr (zsp D) i)), .int (nI i)] [] (zcm Wd a3) := by
    intro z
    induction z with
    | zero =>
      intro i hi
      obtain rfl : i = dJ D := by omega
      refine zk_iload_n hX dL_all_4 rfl ?_
      refine zk_aload_n hX dL_all_5 rfl ?_
      refine zk_iconst (v := 4) hX dL_all_6 (by decide) ?_
      refine zl_ialdE hX dL_all_7 (nI_k 4 rfl) hk (by first | assumption | omega) ?_
      rw [hA.1.2.2]
      refine zk_icmp_ge (tgt := 39) hX dL_all_8 (by decide) (fun c8 => ?_) (fun c8 => ?_)
      rotate_left
      · exact absurd (nI_le (Nat.le_refl _) (by omega)) c8
      refine zk_iload_n hX dL_all_39 rfl ?_
      refine zk_iret hX hE rfl ⟨rfl, rfl⟩ dL_all_40 ⟨_, rfl, _, _, rfl, ?_⟩
      exact ⟨⟨rfl, rfl⟩, rfl⟩
    | succ z ih =>
      intro i hi
      have h0 := ih (i + 1) (by omega)
      obtain ⟨-, e1, e2⟩ := hA.2.2.2 i (by omega)
      refine zk_iload_n hX dL_all_4 rfl ?_
      refine zk_aload_n hX dL_all_5 rfl ?_
      refine zk_iconst (v := 4) hX dL_all_6 (by decide) ?_
      refine zl_ialdE hX dL_all_7 (nI_k 4 rfl) hk (by first | assumption | omega) ?_
      rw [hA.1.2.2]
      refine zk_icmp_ge (tgt := 39) hX dL_all_8 (by decide) (fun c8 => ?_) (fun c8 => ?_)
      · exact absurd c8 (nI_ge (by omega) (by omega))
      refine zk_iload_n hX dL_all_11 rfl ?_
      refine zk_aload_n hX dL_all_12 rfl ?_
      refine zk_bipush (v := 41) hX dL_all_13 (by decide) ?_
      refine zk_iconst (v := 3) hX dL_all_15 (by decide) ?_
      refine zk_iload_n hX dL_all_16 rfl ?_
      refine zk_imul hX dL_all_17 ?_
      refine zk_iadd hX dL_all_18 ?_
      refine zl_ialdE hX dL_all_19 (nI_addE (nI_k 41 rfl) (nI_mulE (nI_k 3 rfl) rfl)) hk (by first | assumption | omega) ?_
      rw [e1]
      refine zk_aload_n hX dL_all_20 rfl ?_
      refine zk_bipush (v := 42) hX dL_all_21 (by decide) ?_
      refine zk_iconst (v := 3) hX dL_all_23 (by decide) ?_
      refine zk_iload_n hX dL_all_24 rfl ?_
      refine zk_imul hX dL_all_25 ?_
      refine zk_iadd hX dL_all_26 ?_
      refine zl_ialdE hX dL_all_27 (nI_addE (nI_k 42 rfl) (nI_mulE (nI_k 3 rfl) rfl)) hk (by first | assumption | omega) ?_
      rw [e2]
      refine zk_iadd hX dL_all_28 ?_
      refine zk_iconst (v := 1) hX dL_all_29 (by decide) ?_
      refine zk_iadd hX dL_all_30 ?_
      refine zk_imul hX dL_all_31 ?_
      refine zk_istore_n (lo' := [_, _, _]) hX dL_all_32 (Nat.le_of_ble_eq_true rfl) rfl rfl ?_
      refine zk_iinc (lo' := [_, _, _]) hX dL_all_33 rfl (by first | exact zinc _ | exact rfl) (Nat.le_of_ble_eq_true rfl) rfl rfl ?_
      refine zk_goto (tgt := 4) hX dL_all_36 (by decide) ?_
      have e : nI (zpr (zsp D) i) * (nI (dB D i) + nI (dA D i) + 1) = nI (zpr (zsp D) (i + 1)) := nI_mulE rfl (nI_addE (nI_addE rfl rfl) rfl)
      rw [e]
      exact h0
  refine zk_iconst (v := 1) hX dL_all_0 (by decide) ?_
  refine zk_istore_n (lo' := [_, _, _]) hX dL_all_1 (Nat.le_of_ble_eq_true rfl) rfl rfl ?_
  refine zk_iconst (v := 0) hX dL_all_2 (by decide) ?_
  refine zk_istore_n (lo' := [_, _, _]) hX dL_all_3 (Nat.le_of_ble_eq_true rfl) rfl rfl ?_
  exact loop (dJ D) 0 (by omega)
theorem s_L_turns {k k2 c : Nat} (hn : zLn n) (hk : zAr n k 64) (hk2 : zAr n k2 64) (hkk : k ≠ k2) (hA : aH (a3 k) D) (hD : zDok D) (hc : c < zpr (zsp D) (dJ D)) : zDv G n mL_turns [.ref k, .int (nI c), .ref k2] Wd a3 (fun Wd1 a1 => Wd1 = Wd ∧ (∀ q, q ≠ k2 → a1 q = a3 q) ∧ ∀ j, j < dJ D → a1 k2 j = zcode_t D c j) := by
  have hu := zLn_u hn
  have hJ6 := hD.1.2.2
  have hN := zpr_le hD (Nat.le_refl (dJ D))
  refine zC_of (lo := [_, _, _, _, _, _]) kcL_turns (Nat.le_of_ble_eq_true rfl) rfl (fun X hX hE => ?_)
  have loop : ∀ m rest v a1, m ≤ dJ D → rest < 16000 → (∀ q, q ≠ k2 → a1 q = a3 q) → (∀ j, j < m → zdg (zsp D) (dJ D) c j = zdg (zsp D) m rest j) → (∀ j, m ≤ j → j < dJ D → a1 k2 j = zcode_t D c j) →
      zk G X mL_turns n 0 0 9 [.ref k, .int (nI c), .ref k2, .int (nI rest), .int (nI m - 1), v] [] (zcm Wd a1) := by
    intro m
    induction m with
    | zero =>
      intro rest v a1 hm hr h1 h2 h3
      refine zk_iload hX dL_turns_9 rfl ?_
      refine zk_if_lt (tgt := 66) hX dL_turns_11 (by decide) (fun c11 => ?_) (fun c11 => ?_)
      rotate_left
      · exact absurd (by decide) c11
      refine zk_vret hX hE rfl ⟨rfl, rfl⟩ dL_turns_66 ⟨rfl, _, _, rfl, ?_⟩
      exact ⟨rfl, h1, fun j hj => h3 j (Nat.zero_le _) hj⟩
    | succ m ih =>
      intro rest v a1 hm hr h1 h2 h3
      obtain ⟨-, e1, e2⟩ := hA.2.2.2 m (by omega)
      rw [← h1 k hkk] at e1 e2
      obtain ⟨-, hb, ha⟩ := hD.2.2.2.2.1 m (by omega)
      have em : nI (m + 1) - 1 = nI m := by
        have := nI_subE (a := m + 1) (b := 1) (by omega) rfl (show (1 : Int32) = nI 1 from rfl)
        rwa [Nat.add_sub_cancel] at this
      rw [em]
      have es : nI (dB D m) + nI (dA D m) + 1 = nI (zsp D m) := nI_addE (nI_addE rfl rfl) rfl
      have hs1 := (zsp_b hD (show m < dJ D by omega)).1
      have hs5 := (zsp_b hD (show m < dJ D by omega)).2
      have hq : rest / zsp D m < 16000 := Nat.lt_of_le_of_lt (Nat.div_le_self _ _) hr
      have h0 : ∀ v, _ := fun v => ih (rest / zsp D m) v (zu3 a1 k2 m (zcode_t D c m)) (by omega) hq (fun q hq => by rw [zu3_k hq]; exact h1 q hq) (fun j hj => by
        rw [h2 j (by omega)]
        show (if j = m then _ else _) = _
        rw [if_neg (by omega)]) (fun j hj hj2 => by
        by_cases h : j = m
        · subst h
          exact zu3_s
        · rw [zu3_n h]
          exact h3 j (by omega) hj2)
      have hne : ¬ nI (zsp D m) = 0 := fun q => by
        have := nI_inj (show zsp D m < 2 ^ 31 by omega) (by decide) (q.trans (show (0 : Int32) = nI 0 from rfl))
        omega
      refine zk_iload hX dL_turns_9 rfl ?_
      refine zk_if_lt (tgt := 66) hX dL_turns_11 (by decide) (fun c11 => ?_) (fun c11 => ?_)
      · exact absurd c11 (fun q => absurd (nI_pos' (n := m) (by omega)) (Int32.not_le.mpr q))
      refine zk_aload_n hX dL_turns_14 rfl ?_
      refine zk_bipush (v := 41) hX dL_turns_15 (by decide) ?_
      refine zk_iconst (v := 3) hX dL_turns_17 (by decide) ?_
      refine zk_iload hX dL_turns_18 rfl ?_
      refine zk_imul hX dL_turns_20 ?_
      refine zk_iadd hX dL_turns_21 ?_
      refine zl_ialdE hX dL_turns_22 (nI_addE (nI_k 41 rfl) (nI_mulE (nI_k 3 rfl) rfl)) hk (by first | assumption | omega) ?_
      rw [e1]
      refine zk_aload_n hX dL_turns_23 rfl ?_
      refine zk_bipush (v := 42) hX dL_turns_24 (by decide) ?_
      refine zk_iconst (v := 3) hX dL_turns_26 (by decide) ?_
      refine zk_iload hX dL_turns_27 rfl ?_
      refine zk_imul hX dL_turns_29 ?_
      refine zk_iadd hX dL_turns_30 ?_
      refine zl_ialdE hX dL_turns_31 (nI_addE (nI_k 42 rfl) (nI_mulE (nI_k 3 rfl) rfl)) hk (by first | assumption | omega) ?_
      rw [e2]
      refine zk_iadd hX dL_turns_32 ?_
      refine zk_iconst (v := 1) hX dL_turns_33 (by decide) ?_
      refine zk_iadd hX dL_turns_34 ?_
      rw [es]
      refine zk_istore (lo' := [_, _, _, _, _, _]) hX dL_turns_35 (Nat.le_of_ble_eq_true rfl) rfl rfl ?_
      refine zk_aload_n hX dL_turns_37 rfl ?_
      refine zk_iload hX dL_turns_38 rfl ?_
      refine zk_iload_n hX dL_turns_40 rfl ?_
      refine zk_iload hX dL_turns_41 rfl ?_
      refine zk_irem hX dL_turns_43 hne ?_
      refine zk_aload_n hX dL_turns_44 rfl ?_
      refine zk_bipush (v := 41) hX dL_turns_45 (by decide) ?_
      refine zk_iconst (v := 3) hX dL_turns_47 (by decide) ?_
      refine zk_iload hX dL_turns_48 rfl ?_
      refine zk_imul hX dL_turns_50 ?_
      refine zk_iadd hX dL_turns_51 ?_
      refine zl_ialdE hX dL_turns_52 (nI_addE (nI_k 41 rfl) (nI_mulE (nI_k 3 rfl) rfl)) hk (by first | assumption | omega) ?_
      rw [e1]
      refine zk_isub hX dL_turns_53 ?_
      have ed : nI rest - nI rest / nI (zsp D m) * nI (zsp D m) - nI (dB D m) = zcode_t D c m := by
        rw [nI_rem (by omega) (by omega)]
        show _ = nI (zdg (zsp D) (dJ D) c m) - nI (dB D m)
        rw [h2 m (by omega)]
        show _ = nI (if m = m then rest % zsp D m else _) - _
        rw [if_pos rfl]
      rw [ed]
      refine zl_iastE hX hu dL_turns_54 rfl hk2 (by first | assumption | omega) ?_
      refine zk_iload_n hX dL_turns_55 rfl ?_
      refine zk_iload hX dL_turns_56 rfl ?_
      refine zk_idiv hX dL_turns_58 hne ?_
      rw [nI_div (by omega) (by omega)]
      refine zk_istore_n (lo' := [_, _, _, _, _, _]) hX dL_turns_59 (Nat.le_of_ble_eq_true rfl) rfl rfl ?_
      refine zk_iinc (lo' := [_, _, _, _, _, _]) hX dL_turns_60 rfl (by exact (show nI m + Int32.ofInt (-1) = nI m - 1 from by rw [Int32.sub_eq_add_neg]; rfl)) (Nat.le_of_ble_eq_true rfl) rfl rfl ?_
      refine zk_goto (tgt := 9) hX dL_turns_63 (by decide) ?_
      exact h0 _
  refine zk_iload_n hX dL_turns_0 rfl ?_
  refine zk_istore_n (lo' := [_, _, _, _, _, _]) hX dL_turns_1 (Nat.le_of_ble_eq_true rfl) rfl rfl ?_
  refine zk_aload_n hX dL_turns_2 rfl ?_
  refine zk_iconst (v := 4) hX dL_turns_3 (by decide) ?_
  refine zl_ialdE hX dL_turns_4 (nI_k 4 rfl) hk (by first | assumption | omega) ?_
  rw [hA.1.2.2]
  refine zk_iconst (v := 1) hX dL_turns_5 (by decide) ?_
  refine zk_isub hX dL_turns_6 ?_
  refine zk_istore (lo' := [_, _, _, _, _, _]) hX dL_turns_7 (Nat.le_of_ble_eq_true rfl) rfl rfl ?_
  exact loop (dJ D) c .null a3 (Nat.le_refl _) (by omega) (fun _ _ => rfl) (fun _ _ => rfl) (fun j h1 h2 => absurd h1 (by omega))
/-- what laying a row may change -/
def lyF (r : Nat) (w w' : zW) : Prop := (∀ k, k ≠ 4 + 2 * r → k ≠ 5 + 2 * r → k ≠ 1 → w'.1 k = w.1 k) ∧ (∀ i, i ≠ 0 → w'.1 1 i = w.1 1 i) ∧ w'.2 = w.2
theorem lyF_t {r : Nat} {w w1 w2 : zW} (h : lyF r w w1) (h2 : lyF r w1 w2) : lyF r w w2 := ⟨fun k q1 q2 q3 => (h2.1 k q1 q2 q3).trans (h.1 k q1 q2 q3), fun i hi => (h2.2.1 i hi).trans (h.2.1 i hi), h2.2.2.trans h.2.2⟩
theorem s_L_lay {k r m L : Nat} {v : Nat → Int32} (hn : zLn n) (hk : zAr n k L) (hmL : m ≤ L) (hr : r < 6) (hm : m ≤ 40) (hw : zWf (Wd b)) (hv : ∀ i, i < m → a3 k i = v i) : zDi G n mL_lay [.ref (zro b), .int (nI r), .ref k, .int (nI m)] Wd a3 (fun x Wd1 a1 => x = 1 ∧ a1 = a3 ∧ zot Wd Wd1 b ∧ lyF r (Wd b) (Wd1 b) ∧ (Wd1 b).1 (4 + 2 * r) 0 = nI m ∧ ∀ i, i < m → (Wd1 b).1 (5 + 2 * r) i = v i) := by
  have hu := zLn_u hn
  have hn2 := zLn_2 hn
  have hR := s_X11_row (G := zGb G b) hw hr (n := nI m) (nI_le hm (by decide))
  rw [zFi, show c_row (Wd b) r (nI m) = (nI m, zfill (zsi (Wd b) (4 + 2 * r) 0 (nI m)) (5 + 2 * r) (nI m).toNatClampNeg 0) from if_neg (fun q => absurd (nI_pos' (n := m) (by omega)) (Int32.not_le.mpr q))] at hR
  refine zC_of (lo := [_, _, _, _, _, _]) kcL_lay (Nat.le_of_ble_eq_true rfl) rfl (fun X hX hE => ?_)
  have loop : ∀ z i Wd1, i + z = m → zot Wd Wd1 b → lyF r (Wd b) (Wd1 b) → (Wd1 b).1 (4 + 2 * r) 0 = nI m → (∀ j, j < i → (Wd1 b).1 (5 + 2 * r) j = v j) →
      zk G X mL_lay n 0 0 20 [.ref (zro b), .int (nI r), .ref k, .int (nI m), .int 1, .int (nI i)] [] (zcm Wd1 a3) := by
    intro z
    induction z with
    | zero =>
      intro i Wd1 hi h1 h2 h3 h4
      obtain rfl : i = m := by omega
      refine zk_iload hX dL_lay_20 rfl ?_
      refine zk_iload_n hX dL_lay_22 rfl ?_
      refine zk_icmp_ge (tgt := 59) hX dL_lay_23 (by decide) (fun c23 => ?_) (fun c23 => ?_)
      rotate_left
      · exact absurd (nI_le (Nat.le_refl _) (by omega)) c23
      refine zk_iload hX dL_lay_59 rfl ?_
      refine zk_zret hX hE rfl ⟨rfl, rfl⟩ dL_lay_61 rfl ⟨_, rfl, _, _, rfl, ?_⟩
      exact ⟨rfl, rfl, h1, h2, h3, h4⟩
    | succ z ih =>
      intro i Wd1 hi h1 h2 h3 h4
      have hw1 : zWf (Wd1 b) := zWf_of hw (by rw [h2.2.2])
      have hS : zSz ((Wd1 b).1 (4 + 2 * r) 0) 40 := Or.inr ⟨m, hm, h3⟩
      have hP := s_X11_lay (G := zGb G b) hw1 hr hS (nI i) (v i)
      rw [zFi, show c_lay (Wd1 b) r (nI i) (v i) = (1, zsi (zsi (Wd1 b) (5 + 2 * r) i (v i)) 1 0 (zRget (Wd1 b) (4 + 2 * r) (nI i))) from by
        unfold c_lay
        rw [h3, if_neg (fun q => q (nI_pos' (n := m) (by omega))), if_neg (fun q => q ⟨nI_pos' (n := i) (by omega), nI_lt (by omega) (by omega)⟩), nI_clamp (by omega)]] at hP
      refine zk_iload hX dL_lay_20 rfl ?_
      refine zk_iload_n hX dL_lay_22 rfl ?_
      refine zk_icmp_ge (tgt := 59) hX dL_lay_23 (by decide) (fun c23 => ?_) (fun c23 => ?_)
      · exact absurd c23 (nI_ge (by omega) (by omega))
      refine zk_iload hX dL_lay_26 rfl ?_
      refine zk_if_eq (tgt := 59) hX dL_lay_28 (by decide) (fun c28 => ?_) (fun c28 => ?_)
      · exact absurd c28 (by decide)
      refine zk_aload_n hX dL_lay_31 rfl ?_
      refine zk_iload_n hX dL_lay_32 rfl ?_
      refine zk_iload hX dL_lay_33 rfl ?_
      refine zk_aload_n hX dL_lay_35 rfl ?_
      refine zk_iload hX dL_lay_36 rfl ?_
      refine zl_ialdE hX dL_lay_38 rfl hk (by first | assumption | omega) ?_
      rw [hv i (by omega)]
      refine zl_callV (M' := mX11_lay) (As := [_, _, _]) (b := b) hX hu hn2 dL_lay_39 kcX11_lay mlL_50 viX11_lay rfl hP rfl rfl rfl (Nat.le_of_ble_eq_true rfl) rfl ⟨Nat.le_of_ble_eq_true rfl, Nat.le_of_ble_eq_true rfl⟩ (fun x w1 q => ?_)
      obtain ⟨rfl, rfl⟩ := q
      refine zk_iconst (v := 1) hX dL_lay_42 (by decide) ?_
      refine zk_icmp_ne (tgt := 50) hX dL_lay_43 (by decide) (fun c43 => ?_) (fun c43 => ?_)
      · exact absurd rfl c43
      refine zk_iconst (v := 1) hX dL_lay_46 (by decide) ?_
      refine zk_goto (tgt := 51) hX dL_lay_47 (by decide) ?_
      refine zk_istore (lo' := [_, _, _, _, _, _]) hX dL_lay_51 (Nat.le_of_ble_eq_true rfl) rfl rfl ?_
      refine zk_iinc (lo' := [_, _, _, _, _, _]) hX dL_lay_53 rfl (by first | exact zinc _ | exact rfl) (Nat.le_of_ble_eq_true rfl) rfl rfl ?_
      refine zk_goto (tgt := 20) hX dL_lay_56 (by decide) ?_
      refine ih (i + 1) _ (by omega) (zot_t h1 zot_u) ?_ ?_ ?_
      · rw [zub_s]
        refine lyF_t h2 ⟨fun c q1 q2 q3 => ?_, fun j hj => ?_, rfl⟩
        · funext j
          rw [zsi_1, if_neg (fun q => q3 q.1), zsi_1, if_neg (fun q => q2 q.1)]
        · rw [zsi_1, if_neg (fun q => hj q.2), zsi_1, if_neg (fun q => absurd q.1 (by omega))]
      · rw [zub_s, zsi_1, if_neg (fun q => absurd q.1 (by omega)), zsi_1, if_neg (fun q => absurd q.1 (by omega))]
        exact h3
      · intro j hj
        rw [zub_s, zsi_1, if_neg (fun q => absurd q.1 (by omega)), zsi_1]
        by_cases h : j = i
        · subst h
          rw [if_pos ⟨rfl, rfl⟩]
        · rw [if_neg (fun q => h q.2)]
          exact h4 j (by omega)
  refine zk_aload_n hX dL_lay_0 rfl ?_
  refine zk_iload_n hX dL_lay_1 rfl ?_
  refine zk_iload_n hX dL_lay_2 rfl ?_
  refine zl_callV (M' := mX11_row) (As := [_, _]) (b := b) hX hu hn2 dL_lay_3 kcX11_row mlL_47 viX11_row rfl hR rfl rfl rfl (Nat.le_of_ble_eq_true rfl) rfl ⟨Nat.le_of_ble_eq_true rfl, Nat.le_of_ble_eq_true rfl⟩ (fun x w1 q => ?_)
  obtain ⟨rfl, rfl⟩ := q
  refine zk_iload_n hX dL_lay_6 rfl ?_
  refine zk_icmp_ne (tgt := 14) hX dL_lay_7 (by decide) (fun c7 => ?_) (fun c7 => ?_)
  · exact absurd rfl c7
  refine zk_iconst (v := 1) hX dL_lay_10 (by decide) ?_
  refine zk_goto (tgt := 15) hX dL_lay_11 (by decide) ?_
  refine zk_istore (lo' := [_, _, _, _, _, _]) hX dL_lay_15 (Nat.le_of_ble_eq_true rfl) rfl rfl ?_
  refine zk_iconst (v := 0) hX dL_lay_17 (by decide) ?_
  refine zk_istore (lo' := [_, _, _, _, _, _]) hX dL_lay_18 (Nat.le_of_ble_eq_true rfl) rfl rfl ?_
  refine loop m 0 _ (by omega) zot_u ?_ ?_ (fun j hj => absurd hj (Nat.not_lt_zero _))
  · rw [zub_s]
    refine ⟨fun c q1 q2 q3 => ?_, fun i hi => ?_, rfl⟩
    · funext j
      show (if c = 5 + 2 * r ∧ _ then _ else _) = _
      rw [if_neg (fun q => q2 q.1), zsi_1, if_neg (fun q => q1 q.1)]
    · show (if 1 = 5 + 2 * r ∧ _ then _ else _) = _
      rw [if_neg (fun q => absurd q.1 (by omega)), zsi_1, if_neg (fun q => absurd q.1 (by omega))]
  · rw [zub_s]
    show (if 4 + 2 * r = 5 + 2 * r ∧ _ then _ else _) = _
    rw [if_neg (fun q => absurd q.1 (by omega)), zsi_1, if_pos ⟨rfl, rfl⟩]
end ZH
