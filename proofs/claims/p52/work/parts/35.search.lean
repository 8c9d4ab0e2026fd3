def zbst (P : Nat → Bool) (f : Nat → Nat) : Nat → Option Nat
  | 0 => none
  | n + 1 => if P n = true then (match zbst P f n with
    | none => some n
    | some b => if f n < f b then some n else some b) else zbst P f n
theorem zbst_f {P : Nat → Bool} {f : Nat → Nat} {n : Nat} (h : ¬ P n = true) : zbst P f (n + 1) = zbst P f n := if_neg h
theorem zbst_n {P : Nat → Bool} {f : Nat → Nat} {n : Nat} (h : P n = true) (e : zbst P f n = none) : zbst P f (n + 1) = some n := by
  show (if P n = true then _ else _) = _
  rw [if_pos h, e]
theorem zbst_s {P : Nat → Bool} {f : Nat → Nat} {n b : Nat} (h : P n = true) (e : zbst P f n = some b) : zbst P f (n + 1) = if f n < f b then some n else some b := by
  show (if P n = true then _ else _) = _
  rw [if_pos h, e]
theorem zbst_ok (P : Nat → Bool) (f : Nat → Nat) : ∀ n, (zbst P f n = none ∧ ∀ i, i < n → ¬ P i = true) ∨ ∃ b, zbst P f n = some b ∧ b < n ∧ P b = true ∧ ∀ i, i < n → P i = true → f b ≤ f i
  | 0 => Or.inl ⟨rfl, fun i h => absurd h (by omega)⟩
  | n + 1 => by
    by_cases h : P n = true
    · rcases zbst_ok P f n with ⟨e, h2⟩ | ⟨b, e, h2, h3, h4⟩
      · refine Or.inr ⟨n, zbst_n h e, by omega, h, fun i hi hp => ?_⟩
        rcases Nat.lt_succ_iff_lt_or_eq.mp hi with g | rfl
        · exact absurd hp (h2 i g)
        · exact Nat.le_refl _
      · have e2 := zbst_s h e
        by_cases q : f n < f b
        · rw [if_pos q] at e2
          refine Or.inr ⟨n, e2, by omega, h, fun i hi hp => ?_⟩
          rcases Nat.lt_succ_iff_lt_or_eq.mp hi with g | rfl
          · have := h4 i g hp
            omega
          · exact Nat.le_refl _
        · rw [if_neg q] at e2
          refine Or.inr ⟨b, e2, by omega, h3, fun i hi hp => ?_⟩
          rcases Nat.lt_succ_iff_lt_or_eq.mp hi with g | rfl
          · exact h4 i g hp
          · omega
    · rw [zbst_f h]
      rcases zbst_ok P f n with ⟨e, h2⟩ | ⟨b, e, h2, h3, h4⟩
      · refine Or.inl ⟨e, fun i hi => ?_⟩
        rcases Nat.lt_succ_iff_lt_or_eq.mp hi with g | rfl
        · exact h2 i g
        · exact h
      · refine Or.inr ⟨b, e, by omega, h3, fun i hi hp => ?_⟩
        rcases Nat.lt_succ_iff_lt_or_eq.mp hi with g | rfl
        · exact h4 i g hp
        · exact absurd hp h
theorem zbst_c {P P' : Nat → Bool} {f f' : Nat → Nat} : ∀ {n : Nat}, (∀ i, i < n → P i = P' i) → (∀ i, i < n → f i = f' i) → zbst P f n = zbst P' f' n
  | 0, _, _ => rfl
  | n + 1, h1, h2 => by
    have ih := zbst_c (P := P) (P' := P') (f := f) (f' := f') (n := n) (fun i hi => h1 i (by omega)) (fun i hi => h2 i (by omega))
    have e := h1 n (by omega)
    by_cases h : P n = true
    · rcases zbst_ok P f n with ⟨e1, _⟩ | ⟨b, e1, hb, _, _⟩
      · rw [zbst_n h e1, zbst_n (by rw [← e]; exact h) (by rw [← ih]; exact e1)]
      · rw [zbst_s h e1, zbst_s (by rw [← e]; exact h) (by rw [← ih]; exact e1), h2 n (by omega), h2 b (by omega)]
    · rw [zbst_f h, zbst_f (by rw [← e]; exact h), ih]
def zoe : Option Nat → Int32
  | none => -9
  | some b => nI b
def zof0 (f : Nat → Nat) : Option Nat → Int32
  | none => 0
  | some b => nI (f b)
def zuni (P : Nat → Bool) (S : Nat → zS) : Nat → zS
  | 0 => zno
  | n + 1 => if P n = true then zun (zuni P S n) (S n) else zuni P S n
theorem zuni_m {P : Nat → Bool} {S : Nat → zS} {c : Nat} : ∀ {n : Nat}, zuni P S n c = true ↔ ∃ i, i < n ∧ P i = true ∧ S i c = true
  | 0 => ⟨fun h => (by cases h), fun h => h.elim (fun i q => absurd q.1 (by omega))⟩
  | n + 1 => by
    by_cases h : P n = true
    · have e : zuni P S (n + 1) c = (zuni P S n c || S n c) := by
        show (if P n = true then zun (zuni P S n) (S n) else zuni P S n) c = _
        rw [if_pos h]
        rfl
      rw [e, Bool.or_eq_true, zuni_m]
      constructor
      · rintro (⟨i, h1, h2⟩ | h2)
        · exact ⟨i, by omega, h2⟩
        · exact ⟨n, by omega, h, h2⟩
      · rintro ⟨i, h1, h2, h3⟩
        rcases Nat.lt_succ_iff_lt_or_eq.mp h1 with g | rfl
        · exact Or.inl ⟨i, g, h2, h3⟩
        · exact Or.inr h3
    · have e : zuni P S (n + 1) c = zuni P S n c := by
        show (if P n = true then zun (zuni P S n) (S n) else zuni P S n) c = _
        rw [if_neg h]
      rw [e, zuni_m]
      constructor
      · rintro ⟨i, h1, h2⟩
        exact ⟨i, by omega, h2⟩
      · rintro ⟨i, h1, h2, h3⟩
        rcases Nat.lt_succ_iff_lt_or_eq.mp h1 with g | rfl
        · exact ⟨i, g, h2, h3⟩
        · exact absurd h2 h
theorem zthr_uni {z u v : Nat} {P : Nat → Bool} {S : Nat → zS} : ∀ {n : Nat}, zthr z u v (zuni P S n) = zuni P (fun i => zthr z u v (S i)) n
  | 0 => zthr_no
  | n + 1 => by
    unfold zuni
    by_cases h : P n = true
    · rw [if_pos h, if_pos h, zthr_un, zthr_uni]
    · rw [if_neg h, if_neg h, zthr_uni]
def cTab (w : zW) (D : zD) (o : Int32) : Prop := w.1 131 1 = nI (zN_ D o (dF D)) ∧ cRow w D o (dF D) ∧ zN_ D o (dF D) ≤ 4096
theorem cTab_f {w w' : zW} {D : zD} {o : Int32} {A B F : List Nat} (h : cTab w D o) (hF : zFr A B F w w') (hA : (!A.contains 131 && !A.contains 134 && !B.contains 135 && !B.contains 136) = true) : cTab w' D o := by
  simp only [Bool.and_eq_true, Bool.not_eq_true', ← Bool.not_eq_true, List.contains_iff_mem] at hA
  refine ⟨by rw [hF.2.1 131 hA.1.1.1 (by decide)]; exact h.1, fun i hi => ?_, h.2.2⟩
  rw [hF.2.1 134 hA.1.1.2 (by decide), hF.2.2.1 135 hA.1.2, hF.2.2.1 136 hA.2]
  exact h.2.1 i hi
theorem cThr_f {w w' : zW} {D : zD} {o : Int32} {z u v f : Nat} {A B F : List Nat} (h : cThr w D o z u v f) (hF : zFr A B F w w') (hA : (!B.contains 137 && !B.contains 138) = true) : cThr w' D o z u v f := by
  simp only [Bool.and_eq_true, Bool.not_eq_true', ← Bool.not_eq_true, List.contains_iff_mem] at hA
  intro i hi
  rw [hF.2.2.1 137 hA.1, hF.2.2.1 138 hA.2]
  exact h i hi
def rH (D : zD) (o : Int32) (T i : Nat) : Bool := decide (i < zN_ D o (dF D) ∧ zwrL zno (rL D o (dF D) i) = 0 ∧ rA D o (dF D) i ≤ T)
theorem s_X6_isBarred {G : zG} {w : zW} {D : zD} {o : Int32} (hw : zWf w) (hD : zDok D) (hT : cTab w D o) {i : Nat} (hi : i < 5000) : zEi G mX6_isBarred [.ref 131, .int (nI i)] w (zb (¬ (i < zN_ D o (dF D) ∧ zwrL zno (rL D o (dF D) i) = 0))) w := by
  have hN := hT.2.2
  refine zC_of (lo := [_, _]) kcX6_isBarred (Nat.le_of_ble_eq_true rfl) rfl (fun X hX hE => ?_)
  refine zk_iload_n hX dX6_isBarred_0 rfl ?_
  refine zk_if_lt (tgt := 21) hX dX6_isBarred_1 (by decide) (fun c1 => ?_) (fun c1 => ?_)
  · exact absurd c1 (nI_pos (by omega))
  refine zk_iload_n hX dX6_isBarred_4 rfl ?_
  refine zk_aload_n hX dX6_isBarred_5 rfl ?_
  refine zk_getI hX dX6_isBarred_6 flX6_9 k_131 z_131 ?_
  rw [hT.1]
  refine zk_icmp_ge (tgt := 21) hX dX6_isBarred_9 (by decide) (fun c9 => ?_) (fun c9 => ?_)
  · refine zk_iconst (v := 1) hX dX6_isBarred_21 (by decide) ?_
    refine zk_goto (tgt := 26) hX dX6_isBarred_22 (by decide) ?_
    refine zk_zret hX hE rfl ⟨rfl, rfl⟩ dX6_isBarred_26 rfl ⟨_, rfl, ?_⟩
    refine ⟨?_, rfl⟩
    first
      | (refine zb_t' (fun q => ?_); exact absurd c9 (nI_ge q.1 (by omega)))
      | (refine zb_t' (fun q => ?_)
         have := mt (ldv_neg (W := zwrL zno (rL D o (dF D) i)) (A := rA D o (dF D) i) (by have := rA_le (o := o) (F := dF D) (i := i) hD (Nat.le_refl _); omega)).mpr (fun z => c18 (Int32.not_lt.mp z))
         omega)
      | (refine zb_t' (fun q => ?_)
         have h9 := (ldv_neg (W := zwrL zno (rL D o (dF D) i)) (A := rA D o (dF D) i) (by have := rA_le (o := o) (F := dF D) (i := i) hD (Nat.le_refl _); omega)).mp (Int32.not_le.mp c18)
         omega)
      | (refine zb_f' (not_not_intro ⟨hiN, ?_⟩)
         have h9 := mt (ldv_neg (W := zwrL zno (rL D o (dF D) i)) (A := rA D o (dF D) i) (by have := rA_le (o := o) (F := dF D) (i := i) hD (Nat.le_refl _); omega)).mpr (Int32.not_lt.mpr c18)
         omega)
  · have hiN : i < zN_ D o (dF D) := by rcases Nat.lt_or_ge i (zN_ D o (dF D)) with q | q; exact q; exact absurd (nI_le q (by omega)) c9
    refine zk_aload_n hX dX6_isBarred_12 rfl ?_
    refine zk_getR hX dX6_isBarred_13 flX6_22 k_131 z_131 (hw _ _ (by decide) |>.trans r_131_4) ?_
    refine zk_iload_n hX dX6_isBarred_16 rfl ?_
    refine zk_baldE hX dX6_isBarred_17 rfl k_134 z_134 (by first | assumption | omega) rfl ?_
    rw [(hT.2.1 i hiN).1]
    refine zk_if_ge (tgt := 25) hX dX6_isBarred_18 (by decide) (fun c18 => ?_) (fun c18 => ?_)
    · refine zk_iconst (v := 0) hX dX6_isBarred_25 (by decide) ?_
      refine zk_zret hX hE rfl ⟨rfl, rfl⟩ dX6_isBarred_26 rfl ⟨_, rfl, ?_⟩
      refine ⟨?_, rfl⟩
      first
        | (refine zb_t' (fun q => ?_); exact absurd c9 (nI_ge q.1 (by omega)))
        | (refine zb_t' (fun q => ?_)
           have := mt (ldv_neg (W := zwrL zno (rL D o (dF D) i)) (A := rA D o (dF D) i) (by have := rA_le (o := o) (F := dF D) (i := i) hD (Nat.le_refl _); omega)).mpr (fun z => c18 (Int32.not_lt.mp z))
           omega)
        | (refine zb_t' (fun q => ?_)
           have h9 := (ldv_neg (W := zwrL zno (rL D o (dF D) i)) (A := rA D o (dF D) i) (by have := rA_le (o := o) (F := dF D) (i := i) hD (Nat.le_refl _); omega)).mp (Int32.not_le.mp c18)
           omega)
        | (refine zb_f' (not_not_intro ⟨hiN, ?_⟩)
           have h9 := mt (ldv_neg (W := zwrL zno (rL D o (dF D) i)) (A := rA D o (dF D) i) (by have := rA_le (o := o) (F := dF D) (i := i) hD (Nat.le_refl _); omega)).mpr (Int32.not_lt.mpr c18)
           omega)
    · refine zk_iconst (v := 1) hX dX6_isBarred_21 (by decide) ?_
      refine zk_goto (tgt := 26) hX dX6_isBarred_22 (by decide) ?_
      refine zk_zret hX hE rfl ⟨rfl, rfl⟩ dX6_isBarred_26 rfl ⟨_, rfl, ?_⟩
      refine ⟨?_, rfl⟩
      first
        | (refine zb_t' (fun q => ?_); exact absurd c9 (nI_ge q.1 (by omega)))
        | (refine zb_t' (fun q => ?_)
           have := mt (ldv_neg (W := zwrL zno (rL D o (dF D) i)) (A := rA D o (dF D) i) (by have := rA_le (o := o) (F := dF D) (i := i) hD (Nat.le_refl _); omega)).mpr (fun z => c18 (Int32.not_lt.mp z))
           omega)
        | (refine zb_t' (fun q => ?_)
           have h9 := (ldv_neg (W := zwrL zno (rL D o (dF D) i)) (A := rA D o (dF D) i) (by have := rA_le (o := o) (F := dF D) (i := i) hD (Nat.le_refl _); omega)).mp (Int32.not_le.mp c18)
           omega)
        | (refine zb_f' (not_not_intro ⟨hiN, ?_⟩)
           have h9 := mt (ldv_neg (W := zwrL zno (rL D o (dF D) i)) (A := rA D o (dF D) i) (by have := rA_le (o := o) (F := dF D) (i := i) hD (Nat.le_refl _); omega)).mpr (Int32.not_lt.mpr c18)
           omega)
theorem s_X6_isHeld {G : zG} {w : zW} {D : zD} {o : Int32} {T : Nat} (hw : zWf w) (hD : zDok D) (hT : cTab w D o) (hT9 : T ≤ 99) {i : Nat} (hi : i < 5000) : zEi G mX6_isHeld [.ref 131, .int (nI i), .int (nI T)] w (zb (rH D o T i = true)) w := by
  have hN := hT.2.2
  have hA := rA_le (o := o) (F := dF D) (i := i) hD (Nat.le_refl _)
  have e0 : (rH D o T i = true) ↔ (i < zN_ D o (dF D) ∧ zwrL zno (rL D o (dF D) i) = 0 ∧ rA D o (dF D) i ≤ T) := by unfold rH; rw [decide_eq_true_eq]
  refine zC_of (lo := [_, _, _]) kcX6_isHeld (Nat.le_of_ble_eq_true rfl) rfl (fun X hX hE => ?_)
  refine zk_aload_n hX dX6_isHeld_0 rfl ?_
  refine zk_iload_n hX dX6_isHeld_1 rfl ?_
  refine zk_V1i hX dX6_isHeld_2 kcX6_isBarred mlX6_142 viX6_isBarred rfl k_131 z_131 (s_X6_isBarred hw hD hT hi) (Nat.le_of_ble_eq_true rfl) rfl ?_
  refine zk_if_neB (tgt := 22) hX dX6_isHeld_5 (by decide) (fun c5 => ?_) (fun c5 => ?_)
  · refine zk_iconst (v := 0) hX dX6_isHeld_22 (by decide) ?_
    refine zk_zret hX hE rfl ⟨rfl, rfl⟩ dX6_isHeld_23 rfl ⟨_, rfl, ?_⟩
    refine ⟨?_, rfl⟩
    first
      | (refine zb_f' (fun q => c5 ?_); have := e0.mp q; exact ⟨this.1, this.2.1⟩)
      | (refine zb_f' (fun q => ?_); have q1 := (e0.mp q).2.2; exact nI_nlt q1 (by omega) c15)
      | (refine zb_t' (e0.mpr ⟨hb.1, hb.2, Nat.le_of_not_lt (fun q => c15 (nI_lt q (by omega)))⟩))
  · have hb := Decidable.not_not.mp c5
    refine zk_aload_n hX dX6_isHeld_8 rfl ?_
    refine zk_getR hX dX6_isHeld_9 flX6_22 k_131 z_131 (hw _ _ (by decide) |>.trans r_131_4) ?_
    refine zk_iload_n hX dX6_isHeld_12 rfl ?_
    refine zk_baldE hX dX6_isHeld_13 rfl k_134 z_134 (by first | assumption | omega) rfl ?_
    rw [(hT.2.1 i hb.1).1, show ldv (zwrL zno (rL D o (dF D) i)) (rA D o (dF D) i) = nI (rA D o (dF D) i) from if_neg (by omega)]
    refine zk_iload_n hX dX6_isHeld_14 rfl ?_
    refine zk_icmp_gt (tgt := 22) hX dX6_isHeld_15 (by decide) (fun c15 => ?_) (fun c15 => ?_)
    · refine zk_iconst (v := 0) hX dX6_isHeld_22 (by decide) ?_
      refine zk_zret hX hE rfl ⟨rfl, rfl⟩ dX6_isHeld_23 rfl ⟨_, rfl, ?_⟩
      refine ⟨?_, rfl⟩
      first
        | (refine zb_f' (fun q => c5 ?_); have := e0.mp q; exact ⟨this.1, this.2.1⟩)
        | (refine zb_f' (fun q => ?_); have q1 := (e0.mp q).2.2; exact nI_nlt q1 (by omega) c15)
        | (refine zb_t' (e0.mpr ⟨hb.1, hb.2, Nat.le_of_not_lt (fun q => c15 (nI_lt q (by omega)))⟩))
    · refine zk_iconst (v := 1) hX dX6_isHeld_18 (by decide) ?_
      refine zk_goto (tgt := 23) hX dX6_isHeld_19 (by decide) ?_
      refine zk_zret hX hE rfl ⟨rfl, rfl⟩ dX6_isHeld_23 rfl ⟨_, rfl, ?_⟩
      refine ⟨?_, rfl⟩
      first
        | (refine zb_f' (fun q => c5 ?_); have := e0.mp q; exact ⟨this.1, this.2.1⟩)
        | (refine zb_f' (fun q => ?_); have q1 := (e0.mp q).2.2; exact nI_nlt q1 (by omega) c15)
        | (refine zb_t' (e0.mpr ⟨hb.1, hb.2, Nat.le_of_not_lt (fun q => c15 (nI_lt q (by omega)))⟩))
theorem s_X6_turnAt {G : zG} {w : zW} {D : zD} (hw : zWf w) (hD : zDok D) (hH : cHd w 26 D) (hS : cStep w D) {i j : Nat} (hi : i < 20000) (hj : j < dJ D) : zEi G mX6_turnAt [.ref 131, .ref 26, .int (nI i), .int (nI j)] w (zcode_t D i j) w := by
  have h6 := hD.1.2.2
  have hSj := hS j hj
  have hsp := zsp_b hD hj
  have hpos := zsf_pos (sp := zsp D) (m := dJ D) (j := j + 1) (fun j hj => (zsp_b hD hj).1)
  have hle : zsf (zsp D) (dJ D) (j + 1) ≤ 15625 := by
    have h1 := zpr_le hD (Nat.le_refl _)
    rw [zpr_sf (zsp D) (show j + 1 ≤ dJ D by omega)] at h1
    have h2 : 0 < zpr (zsp D) (j + 1) := zpr_pos (fun k hk => (zsp_b hD (by omega)).1)
    exact Nat.le_trans (Nat.le_mul_of_pos_left _ h2) h1
  refine zC_of (lo := [_, _, _, _]) kcX6_turnAt (Nat.le_of_ble_eq_true rfl) rfl (fun X hX hE => ?_)
  refine zk_iload_n hX dX6_turnAt_0 rfl ?_
  refine zk_if_lt (tgt := 32) hX dX6_turnAt_1 (by decide) (fun c1 => ?_) (fun c1 => ?_)
  · exact absurd c1 (nI_pos (by omega))
  refine zk_iload_n hX dX6_turnAt_4 rfl ?_
  refine zk_aload_n hX dX6_turnAt_5 rfl ?_
  refine zk_getI hX dX6_turnAt_6 flX6_67 k_26 z_26 ?_
  rw [hH.1.2.2]
  refine zk_icmp_ge (tgt := 32) hX dX6_turnAt_9 (by decide) (fun c9 => ?_) (fun c9 => ?_)
  · exact absurd c9 (nI_ge hj (by omega))
  refine zk_aload_n hX dX6_turnAt_12 rfl ?_
  refine zk_getR hX dX6_turnAt_13 flX6_15 k_131 z_131 (hw _ _ (by decide) |>.trans r_131_2) ?_
  refine zk_iload_n hX dX6_turnAt_16 rfl ?_
  refine zk_ialdE hX dX6_turnAt_17 rfl k_132 z_132 (by first | assumption | omega) rfl ?_
  rw [hSj.1]
  refine zk_iconst (v := 1) hX dX6_turnAt_18 (by decide) ?_
  refine zk_icmp_lt (tgt := 32) hX dX6_turnAt_19 (by decide) (fun c19 => ?_) (fun c19 => ?_)
  · exact absurd c19 (nI_nlt (b := 1) hpos (by omega))
  refine zk_aload_n hX dX6_turnAt_22 rfl ?_
  refine zk_getR hX dX6_turnAt_23 flX6_19 k_131 z_131 (hw _ _ (by decide) |>.trans r_131_3) ?_
  refine zk_iload_n hX dX6_turnAt_26 rfl ?_
  refine zk_ialdE hX dX6_turnAt_27 rfl k_133 z_133 (by first | assumption | omega) rfl ?_
  rw [hSj.2]
  refine zk_iconst (v := 1) hX dX6_turnAt_28 (by decide) ?_
  refine zk_icmp_ge (tgt := 34) hX dX6_turnAt_29 (by decide) (fun c29 => ?_) (fun c29 => ?_)
  rotate_left
  · exact absurd (nI_le (a := 1) hsp.1 (by omega)) c29
  refine zk_iload_n hX dX6_turnAt_34 rfl ?_
  refine zk_aload_n hX dX6_turnAt_35 rfl ?_
  refine zk_getR hX dX6_turnAt_36 flX6_15 k_131 z_131 (hw _ _ (by decide) |>.trans r_131_2) ?_
  refine zk_iload_n hX dX6_turnAt_39 rfl ?_
  refine zk_ialdE hX dX6_turnAt_40 rfl k_132 z_132 (by first | assumption | omega) rfl ?_
  rw [hSj.1]
  refine zk_idiv hX dX6_turnAt_41 (nI_ne0 hpos (by omega)) ?_
  rw [nI_div (by omega) (by omega)]
  refine zk_aload_n hX dX6_turnAt_42 rfl ?_
  refine zk_getR hX dX6_turnAt_43 flX6_19 k_131 z_131 (hw _ _ (by decide) |>.trans r_131_3) ?_
  refine zk_iload_n hX dX6_turnAt_46 rfl ?_
  refine zk_ialdE hX dX6_turnAt_47 rfl k_133 z_133 (by first | assumption | omega) rfl ?_
  rw [hSj.2]
  refine zk_irem hX dX6_turnAt_48 (nI_ne0 hsp.1 (by omega)) ?_
  rw [nI_rem (Nat.lt_of_le_of_lt (Nat.div_le_self _ _) (by omega)) (by omega), ← zdg_sf (zsp D) i hj]
  refine zk_aload_n hX dX6_turnAt_49 rfl ?_
  refine zk_getR hX dX6_turnAt_50 flX6_146 k_26 z_26 (hw _ _ (by decide) |>.trans r_26_9) ?_
  refine zk_iload_n hX dX6_turnAt_53 rfl ?_
  refine zk_ialdE hX dX6_turnAt_54 rfl k_33 z_33 (by first | assumption | omega) rfl ?_
  rw [(hH.2.2.2 j hj).2.1]
  refine zk_isub hX dX6_turnAt_55 ?_
  refine zk_iret hX hE rfl ⟨rfl, rfl⟩ dX6_turnAt_56 ⟨_, rfl, ?_⟩
  exact ⟨rfl, rfl⟩
theorem s_X6_placeOf {G : zG} {w : zW} {D : zD} {tk : Nat} {d : Nat → Nat} (hw : zWf w) (hD : zDok D) (hH : cHd w 26 D) (hS : cStep w D) (hT : zTc tk) (ht : ∀ j, j < dJ D → w.1 tk j = ztv D d j) : zEi G mX6_placeOf [.ref 131, .ref 26, .ref tk] w (nI (zcd (zsp D) d (dJ D))) w := by
  have h6 := hD.1.2.2
  refine zC_of (lo := [_, _, _, _, _]) kcX6_placeOf (Nat.le_of_ble_eq_true rfl) rfl (fun X hX hE => ?_)
  have loop : ∀ z j, j + z = dJ D → zk0 G X mX6_placeOf 5 [.ref 131, .ref 26, .ref tk, .int (nI (zcd (zsp D) d j * zsf (zsp D) (dJ D) j)), .int (nI j)] [] w := by
    intro z
    induction z with
    | zero =>
      intro j hj
      obtain rfl : j = dJ D := by omega
      refine zk_iload hX dX6_placeOf_5 rfl ?_
      refine zk_aload_n hX dX6_placeOf_7 rfl ?_
      refine zk_getI hX dX6_placeOf_8 flX6_67 k_26 z_26 ?_
      rw [hH.1.2.2]
      refine zk_icmp_ge (tgt := 50) hX dX6_placeOf_11 (by decide) (fun c11 => ?_) (fun c11 => ?_)
      rotate_left
      · exact absurd (nI_le (Nat.le_refl _) (by omega)) c11
      refine zk_iload_n hX dX6_placeOf_50 rfl ?_
      refine zk_iret hX hE rfl ⟨rfl, rfl⟩ dX6_placeOf_51 ⟨_, rfl, ?_⟩
      rw [zsf_ge _ (Nat.le_refl _), Nat.mul_one]
      exact ⟨rfl, rfl⟩
    | succ z ih =>
      intro j hj
      have hSj := hS j (by omega)
      have h0 := ih (j + 1) (by omega)
      have e0 : nI (zcd (zsp D) d j * zsf (zsp D) (dJ D) j) + (ztv D d j + nI (dB D j)) * nI (zsf (zsp D) (dJ D) (j + 1)) = nI (zcd (zsp D) d (j + 1) * zsf (zsp D) (dJ D) (j + 1)) := by
        have e1 : ztv D d j + nI (dB D j) = nI (d j) := by
          unfold ztv
          grind
        rw [e1, nI_mul, nI_add, zsf_s (zsp D) (show j < dJ D by omega), ← Nat.mul_assoc, ← Nat.add_mul]
        rfl
      refine zk_iload hX dX6_placeOf_5 rfl ?_
      refine zk_aload_n hX dX6_placeOf_7 rfl ?_
      refine zk_getI hX dX6_placeOf_8 flX6_67 k_26 z_26 ?_
      rw [hH.1.2.2]
      refine zk_icmp_ge (tgt := 50) hX dX6_placeOf_11 (by decide) (fun c11 => ?_) (fun c11 => ?_)
      · exact absurd c11 (nI_ge (by omega) (by omega))
      refine zk_iload hX dX6_placeOf_14 rfl ?_
      refine zk_aload_n hX dX6_placeOf_16 rfl ?_
      refine zk_alen hX dX6_placeOf_17 hT.1 (Or.inl hT.2) rfl ?_
      refine zk_icmp_ge (tgt := 50) hX dX6_placeOf_18 (by decide) (fun c18 => ?_) (fun c18 => ?_)
      · exact absurd c18 (nI_ge (b := 6) (by omega) (by decide))
      refine zk_iload_n hX dX6_placeOf_21 rfl ?_
      refine zk_aload_n hX dX6_placeOf_22 rfl ?_
      refine zk_iload hX dX6_placeOf_23 rfl ?_
      refine zk_ialdE hX dX6_placeOf_25 rfl hT.1 hT.2 (by first | assumption | omega) rfl ?_
      rw [ht j (by omega)]
      refine zk_aload_n hX dX6_placeOf_26 rfl ?_
      refine zk_getR hX dX6_placeOf_27 flX6_146 k_26 z_26 (hw _ _ (by decide) |>.trans r_26_9) ?_
      refine zk_iload hX dX6_placeOf_30 rfl ?_
      refine zk_ialdE hX dX6_placeOf_32 rfl k_33 z_33 (by first | assumption | omega) rfl ?_
      rw [(hH.2.2.2 j (by omega)).2.1]
      refine zk_iadd hX dX6_placeOf_33 ?_
      refine zk_aload_n hX dX6_placeOf_34 rfl ?_
      refine zk_getR hX dX6_placeOf_35 flX6_15 k_131 z_131 (hw _ _ (by decide) |>.trans r_131_2) ?_
      refine zk_iload hX dX6_placeOf_38 rfl ?_
      refine zk_ialdE hX dX6_placeOf_40 rfl k_132 z_132 (by first | assumption | omega) rfl ?_
      rw [hSj.1]
      refine zk_imul hX dX6_placeOf_41 ?_
      refine zk_iadd hX dX6_placeOf_42 ?_
      rw [e0]
      refine zk_istore_n (lo' := [_, _, _, _, _]) hX dX6_placeOf_43 (Nat.le_of_ble_eq_true rfl) rfl rfl ?_
      refine zk_iinc (lo' := [_, _, _, _, _]) hX dX6_placeOf_44 rfl (by first | exact zinc _ | exact rfl) (Nat.le_of_ble_eq_true rfl) rfl rfl ?_
      refine zk_goto (tgt := 5) hX dX6_placeOf_47 (by decide) ?_
      exact h0
  refine zk_iconst (v := 0) hX dX6_placeOf_0 (by decide) ?_
  refine zk_istore_n (lo' := [_, _, _, _, _]) hX dX6_placeOf_1 (Nat.le_of_ble_eq_true rfl) rfl rfl ?_
  refine zk_iconst (v := 0) hX dX6_placeOf_2 (by decide) ?_
  refine zk_istore (lo' := [_, _, _, _, _]) hX dX6_placeOf_3 (Nat.le_of_ble_eq_true rfl) rfl rfl ?_
  have h0 := loop (dJ D) 0 (by omega)
  rw [show zcd (zsp D) d 0 = 0 from rfl, Nat.zero_mul] at h0
  exact h0
/-- OFF of a row -/
def rO (D : zD) (o : Int32) (z u v : Nat) (M Y : zS) (i : Nat) : Nat := zofB M Y (zthr z u v (zdkL zno (rL D o (dF D) i)))
theorem zofB_le (M Y S : zS) : zofB M Y S ≤ 240 := by
  have h1 := zcard_le (zdiff M S)
  have h2 := zcard_le (zdiff S (zun M Y))
  unfold zofB zmis zovr
  omega
theorem s_X6_offOf {G : zG} {w : zW} {D : zD} {o : Int32} {k z u v : Nat} {M Y : zS} (hw : zWf w) (hT : cTab w D o) (hR : cThr w D o z u v (dF D)) (hk : k < 6) (hB : cBe w k M Y) (r : Option Nat) (hr : ∀ b, r = some b → b < zN_ D o (dF D)) :
    zEi G mX6_offOf [.ref 131, .ref (96 + 3 * k), .int (zoe r)] w (zoe (r.map (rO D o z u v M Y))) w := by
  have hN := hT.2.2
  cases r with
  | none =>
    refine zC_of (lo := [_, _, _]) kcX6_offOf (Nat.le_of_ble_eq_true rfl) rfl (fun X hX hE => ?_)
    refine zk_iload_n hX dX6_offOf_0 rfl ?_
    refine zk_if_lt (tgt := 12) hX dX6_offOf_1 (by decide) (fun c1 => ?_) (fun c1 => ?_)
    rotate_left
    · exact absurd (by decide) c1
    refine zk_bipush (v := -9) hX dX6_offOf_12 (by decide) ?_
    refine zk_goto (tgt := 33) hX dX6_offOf_14 (by decide) ?_
    refine zk_iret hX hE rfl ⟨rfl, rfl⟩ dX6_offOf_33 ⟨_, rfl, ?_⟩
    exact ⟨rfl, rfl⟩
  | some b =>
    have hb := hr b rfl
    have hrb := hR b hb
    refine zC_of (lo := [_, _, _]) kcX6_offOf (Nat.le_of_ble_eq_true rfl) rfl (fun X hX hE => ?_)
    refine zk_iload_n hX dX6_offOf_0 rfl ?_
    refine zk_if_lt (tgt := 12) hX dX6_offOf_1 (by decide) (fun c1 => ?_) (fun c1 => ?_)
    · exact absurd c1 (nI_pos (by omega))
    refine zk_iload_n hX dX6_offOf_4 rfl ?_
    refine zk_aload_n hX dX6_offOf_5 rfl ?_
    refine zk_getI hX dX6_offOf_6 flX6_9 k_131 z_131 ?_
    rw [hT.1]
    refine zk_icmp_lt (tgt := 17) hX dX6_offOf_9 (by decide) (fun c9 => ?_) (fun c9 => ?_)
    rotate_left
    · exact absurd (nI_lt hb (by omega)) c9
    refine zk_aload_n hX dX6_offOf_17 rfl ?_
    refine zk_aload_n hX dX6_offOf_18 rfl ?_
    refine zk_getR hX dX6_offOf_19 flX6_33 k_131 z_131 (hw _ _ (by decide) |>.trans r_131_7) ?_
    refine zk_iload_n hX dX6_offOf_22 rfl ?_
    refine zk_laldE hX dX6_offOf_23 rfl k_137 z_137 (by first | assumption | omega) rfl ?_
    rw [hrb.1]
    refine zk_aload_n hX dX6_offOf_24 rfl ?_
    refine zk_getR hX dX6_offOf_25 flX6_36 k_131 z_131 (hw _ _ (by decide) |>.trans r_131_8) ?_
    refine zk_iload_n hX dX6_offOf_28 rfl ?_
    refine zk_laldE hX dX6_offOf_29 rfl k_138 z_138 (by first | assumption | omega) rfl ?_
    rw [hrb.2]
    refine zk_V2i hX dX6_offOf_30 kcX0_offOf mlX6_149 viX0_offOf rfl (zBek (by first | assumption | omega)) (zBez _ (by first | assumption | omega)).1 (s_X0_offOf hw hk hB) (Nat.le_of_ble_eq_true rfl) rfl ?_
    refine zk_iret hX hE rfl ⟨rfl, rfl⟩ dX6_offOf_33 ⟨_, rfl, ?_⟩
    exact ⟨rfl, rfl⟩
theorem s_X6_nearestTurns {G : zG} {w : zW} {D : zD} {o : Int32} {k z u v T : Nat} {M Y : zS} (hw : zWf w) (hD : zDok D) (hT9 : T ≤ 99) (hT : cTab w D o) (hR : cThr w D o z u v (dF D)) (hk : k < 6) (hB : cBe w k M Y) {st : Int32} {P : Nat → Bool} (hP : ∀ i, P i = true → rH D o T i = true)
    (hs : ∀ (X : zX) (i : Nat) (st0 lo : List Value), zH G X mX6_nearestTurns → i < zN_ D o (dF D) → rH D o T i = true → lo[0]? = some (.ref 131) → lo[1]? = some (.ref 26) → lo[4]? = some (.int st) → lo[7]? = some (.int (nI i)) → (P i = true → zk0 G X mX6_nearestTurns 54 lo [] w) → (¬ P i = true → zk0 G X mX6_nearestTurns 85 lo [] w) → zk0 G X mX6_nearestTurns 32 lo [] w) :
    zEi G mX6_nearestTurns [.ref 131, .ref 26, .ref (96 + 3 * k), .int (nI T), .int st] w (zoe (zbst P (rO D o z u v M Y) (zN_ D o (dF D)))) w := by
  have hN := hT.2.2
  refine zC_of (lo := [_, _, _, _, _, _, _, _, _]) kcX6_nearestTurns (Nat.le_of_ble_eq_true rfl) rfl (fun X hX hE => ?_)
  have loop : ∀ m i (a : Value), i + m = zN_ D o (dF D) → zk0 G X mX6_nearestTurns 10 [.ref 131, .ref 26, .ref (96 + 3 * k), .int (nI T), .int st, .int (zoe (zbst P (rO D o z u v M Y) i)), .int (zof0 (rO D o z u v M Y) (zbst P (rO D o z u v M Y) i)), .int (nI i), a] [] w := by
    intro m
    induction m with
    | zero =>
      intro i a hi
      obtain rfl : i = zN_ D o (dF D) := by omega
      refine zk_iload hX dX6_nearestTurns_10 rfl ?_
      refine zk_aload_n hX dX6_nearestTurns_12 rfl ?_
      refine zk_getI hX dX6_nearestTurns_13 flX6_9 k_131 z_131 ?_
      rw [hT.1]
      refine zk_icmp_ge (tgt := 91) hX dX6_nearestTurns_16 (by decide) (fun c16 => ?_) (fun c16 => ?_)
      rotate_left
      · exact absurd (nI_le (Nat.le_refl _) (by omega)) c16
      refine zk_iload hX dX6_nearestTurns_91 rfl ?_
      refine zk_iret hX hE rfl ⟨rfl, rfl⟩ dX6_nearestTurns_93 ⟨_, rfl, ?_⟩
      exact ⟨rfl, rfl⟩
    | succ m ih =>
      intro i a hi
      have h0 := fun a => ih (i + 1) a (by omega)
      have hl := fun b => zofB_le M Y (zthr z u v (zdkL zno (rL D o (dF D) b)))
      have k85 : ¬ P i = true → ∀ a, zk0 G X mX6_nearestTurns 85 [.ref 131, .ref 26, .ref (96 + 3 * k), .int (nI T), .int st, .int (zoe (zbst P (rO D o z u v M Y) i)), .int (zof0 (rO D o z u v M Y) (zbst P (rO D o z u v M Y) i)), .int (nI i), a] [] w := by
        intro q a
        rw [zbst_f q] at h0
        refine zk_iinc (lo' := [_, _, _, _, _, _, _, _, _]) hX dX6_nearestTurns_85 rfl (by first | exact zinc _ | exact rfl) (Nat.le_of_ble_eq_true rfl) rfl rfl ?_
        refine zk_goto (tgt := 10) hX dX6_nearestTurns_88 (by decide) ?_
        exact h0 a
      have k54 : P i = true → ∀ a, zk0 G X mX6_nearestTurns 54 [.ref 131, .ref 26, .ref (96 + 3 * k), .int (nI T), .int st, .int (zoe (zbst P (rO D o z u v M Y) i)), .int (zof0 (rO D o z u v M Y) (zbst P (rO D o z u v M Y) i)), .int (nI i), a] [] w := by
        intro q a
        have co := s_X6_offOf (G := G) hw hT hR hk hB (some i) (fun b hb => by cases hb; omega)
        rcases zbst_ok P (rO D o z u v M Y) i with ⟨e, _⟩ | ⟨b, e, hb, _, _⟩
        · rw [zbst_n q e] at h0
          rw [e]
          refine zk_aload_n hX dX6_nearestTurns_54 rfl ?_
          refine zk_aload_n hX dX6_nearestTurns_55 rfl ?_
          refine zk_iload hX dX6_nearestTurns_56 rfl ?_
          refine zk_V2i hX dX6_nearestTurns_58 kcX6_offOf mlX6_163 viX6_offOf rfl k_131 z_131 co (Nat.le_of_ble_eq_true rfl) rfl ?_
          refine zk_istore (lo' := [_, _, _, _, _, _, _, _, _]) hX dX6_nearestTurns_61 (Nat.le_of_ble_eq_true rfl) rfl rfl ?_
          refine zk_iload hX dX6_nearestTurns_63 rfl ?_
          refine zk_bipush (v := -9) hX dX6_nearestTurns_65 (by decide) ?_
          refine zk_icmp_eq (tgt := 77) hX dX6_nearestTurns_67 (by decide) (fun c67 => ?_) (fun c67 => ?_)
          rotate_left
          · exact absurd (show zoe none = -9 from rfl) c67
          refine zk_iload hX dX6_nearestTurns_77 rfl ?_
          refine zk_istore (lo' := [_, _, _, _, _, _, _, _, _]) hX dX6_nearestTurns_79 (Nat.le_of_ble_eq_true rfl) rfl rfl ?_
          refine zk_iload hX dX6_nearestTurns_81 rfl ?_
          refine zk_istore (lo' := [_, _, _, _, _, _, _, _, _]) hX dX6_nearestTurns_83 (Nat.le_of_ble_eq_true rfl) rfl rfl ?_
          refine zk_iinc (lo' := [_, _, _, _, _, _, _, _, _]) hX dX6_nearestTurns_85 rfl (by first | exact zinc _ | exact rfl) (Nat.le_of_ble_eq_true rfl) rfl rfl ?_
          refine zk_goto (tgt := 10) hX dX6_nearestTurns_88 (by decide) ?_
          exact h0 _
        · rw [zbst_s q e] at h0
          rw [e]
          have n9 : ¬ nI b = -9 := fun q => by
            have q1 : (0 : Int32) ≤ nI b := nI_pos' (by omega)
            rw [q] at q1
            exact absurd q1 (by decide)
          have l1 := hl i
          have l2 := hl b
          refine zk_aload_n hX dX6_nearestTurns_54 rfl ?_
          refine zk_aload_n hX dX6_nearestTurns_55 rfl ?_
          refine zk_iload hX dX6_nearestTurns_56 rfl ?_
          refine zk_V2i hX dX6_nearestTurns_58 kcX6_offOf mlX6_163 viX6_offOf rfl k_131 z_131 co (Nat.le_of_ble_eq_true rfl) rfl ?_
          refine zk_istore (lo' := [_, _, _, _, _, _, _, _, _]) hX dX6_nearestTurns_61 (Nat.le_of_ble_eq_true rfl) rfl rfl ?_
          refine zk_iload hX dX6_nearestTurns_63 rfl ?_
          refine zk_bipush (v := -9) hX dX6_nearestTurns_65 (by decide) ?_
          refine zk_icmp_eq (tgt := 77) hX dX6_nearestTurns_67 (by decide) (fun c67 => ?_) (fun c67 => ?_)
          · exact absurd c67 n9
          refine zk_iload hX dX6_nearestTurns_70 rfl ?_
          refine zk_iload hX dX6_nearestTurns_72 rfl ?_
          refine zk_icmp_ge (tgt := 85) hX dX6_nearestTurns_74 (by decide) (fun c74 => ?_) (fun c74 => ?_)
          · refine zk_iinc (lo' := [_, _, _, _, _, _, _, _, _]) hX dX6_nearestTurns_85 rfl (by first | exact zinc _ | exact rfl) (Nat.le_of_ble_eq_true rfl) rfl rfl ?_
            refine zk_goto (tgt := 10) hX dX6_nearestTurns_88 (by decide) ?_
            first
            | (rw [if_pos (show rO D o z u v M Y i < rO D o z u v M Y b from nI_ltD (a := rO D o z u v M Y b) c74 (by unfold rO; omega) (by unfold rO; omega))] at h0
               exact h0 _)
            | (rw [if_neg (show ¬ rO D o z u v M Y i < rO D o z u v M Y b from Nat.not_lt.mpr (nI_leD (a := rO D o z u v M Y b) (y := rO D o z u v M Y i) c74 (by unfold rO; omega) (by unfold rO; omega)))] at h0
               exact h0 _)
          · refine zk_iload hX dX6_nearestTurns_77 rfl ?_
            refine zk_istore (lo' := [_, _, _, _, _, _, _, _, _]) hX dX6_nearestTurns_79 (Nat.le_of_ble_eq_true rfl) rfl rfl ?_
            refine zk_iload hX dX6_nearestTurns_81 rfl ?_
            refine zk_istore (lo' := [_, _, _, _, _, _, _, _, _]) hX dX6_nearestTurns_83 (Nat.le_of_ble_eq_true rfl) rfl rfl ?_
            refine zk_iinc (lo' := [_, _, _, _, _, _, _, _, _]) hX dX6_nearestTurns_85 rfl (by first | exact zinc _ | exact rfl) (Nat.le_of_ble_eq_true rfl) rfl rfl ?_
            refine zk_goto (tgt := 10) hX dX6_nearestTurns_88 (by decide) ?_
            first
            | (rw [if_pos (show rO D o z u v M Y i < rO D o z u v M Y b from nI_ltD (a := rO D o z u v M Y b) c74 (by unfold rO; omega) (by unfold rO; omega))] at h0
               exact h0 _)
            | (rw [if_neg (show ¬ rO D o z u v M Y i < rO D o z u v M Y b from Nat.not_lt.mpr (nI_leD (a := rO D o z u v M Y b) (y := rO D o z u v M Y i) c74 (by unfold rO; omega) (by unfold rO; omega)))] at h0
               exact h0 _)
      refine zk_iload hX dX6_nearestTurns_10 rfl ?_
      refine zk_aload_n hX dX6_nearestTurns_12 rfl ?_
      refine zk_getI hX dX6_nearestTurns_13 flX6_9 k_131 z_131 ?_
      rw [hT.1]
      refine zk_icmp_ge (tgt := 91) hX dX6_nearestTurns_16 (by decide) (fun c16 => ?_) (fun c16 => ?_)
      · exact absurd c16 (nI_ge (by omega) (by omega))
      refine zk_aload_n hX dX6_nearestTurns_19 rfl ?_
      refine zk_iload hX dX6_nearestTurns_20 rfl ?_
      refine zk_iload_n hX dX6_nearestTurns_22 rfl ?_
      refine zk_V2i hX dX6_nearestTurns_23 kcX6_isHeld mlX6_155 viX6_isHeld rfl k_131 z_131 (s_X6_isHeld hw hD hT hT9 (by omega)) (Nat.le_of_ble_eq_true rfl) rfl ?_
      refine zk_if_neB (tgt := 32) hX dX6_nearestTurns_26 (by decide) (fun c26 => ?_) (fun c26 => ?_)
      · exact hs X i [] _ hX (by omega) c26 rfl rfl rfl rfl (fun q => k54 q _) (fun q => k85 q _)
      · refine zk_goto (tgt := 85) hX dX6_nearestTurns_29 (by decide) ?_
        exact k85 (fun q => c26 (hP i q)) _
  refine zk_bipush (v := -9) hX dX6_nearestTurns_0 (by decide) ?_
  refine zk_istore (lo' := [_, _, _, _, _, _, _, _, _]) hX dX6_nearestTurns_2 (Nat.le_of_ble_eq_true rfl) rfl rfl ?_
  refine zk_iconst (v := 0) hX dX6_nearestTurns_4 (by decide) ?_
  refine zk_istore (lo' := [_, _, _, _, _, _, _, _, _]) hX dX6_nearestTurns_5 (Nat.le_of_ble_eq_true rfl) rfl rfl ?_
  refine zk_iconst (v := 0) hX dX6_nearestTurns_7 (by decide) ?_
  refine zk_istore (lo' := [_, _, _, _, _, _, _, _, _]) hX dX6_nearestTurns_8 (Nat.le_of_ble_eq_true rfl) rfl rfl ?_
  exact loop (zN_ D o (dF D)) 0 _ (by omega)

