def zfg (T : Nat → Int32) (m p : Nat) : Nat := if p < m ∧ 48 ≤ T p ∧ T p ≤ 57 then (T p - 48).toNatClampNeg else 99
theorem zfg_n {T : Nat → Int32} {m p : Nat} : (zfg T m p = 99 ∧ ¬ (p < m ∧ 48 ≤ T p ∧ T p ≤ 57)) ∨ ((p < m ∧ 48 ≤ T p ∧ T p ≤ 57) ∧ zfg T m p ≤ 9 ∧ T p - 48 = nI (zfg T m p)) := by
  unfold zfg
  by_cases h : p < m ∧ 48 ≤ T p ∧ T p ≤ 57
  · rw [if_pos h]
    obtain ⟨k, hk, e⟩ := znatle (n := 9) (x := T p - 48) (by decide) (by grind) (by show T p - 48 ≤ 9; grind)
    rw [e, nI_clamp (by omega)]
    exact Or.inr ⟨h, hk, rfl⟩
  · rw [if_neg h]
    exact Or.inl ⟨rfl, h⟩
def zfi (n : Nat) : Int32 := if n = 99 then -1 else nI n
def dNil : zD := (0, 0, 0, fun _ => 0, fun _ => 0, fun _ => 0, fun _ => 0, fun _ => 0, fun _ => 0, fun _ => 0, fun _ => 0)
def nup (f : Nat → Nat) (k v : Nat) : Nat → Nat := fun i => if i = k then v else f i
def dHand (D : zD) (c : Nat) : zD := (dW D + 1, dF D, dJ D, nup (dw D) (dW D) c, dO D, dS D, dI D, dL D, dH D, dB D, dA D)
def dFin (D : zD) (s : Nat) : zD := (dW D, dF D + 1, dJ D, dw D, nup (dO D) (dF D) (dW D - 1), nup (dS D) (dF D) s, nup (dI D) (dF D) (dJ D), nup (dL D) (dF D) 0, dH D, dB D, dA D)
def dJnt (D : zD) (b t : Nat) : zD := (dW D, dF D, dJ D + 1, dw D, dO D, dS D, dI D, nup (dL D) (dF D - 1) (dL D (dF D - 1) + 1), nup (dH D) (dJ D) (dF D - 1), nup (dB D) (dJ D) b, nup (dA D) (dJ D) t)
theorem nup_s {f : Nat → Nat} {k v : Nat} : nup f k v k = v := if_pos rfl
theorem nup_n {f : Nat → Nat} {k v i : Nat} (h : i ≠ k) : nup f k v i = f i := if_neg h
theorem zoff_c {D D' : zD} : ∀ {n : Nat}, (∀ f, f < n → dL D f = dL D' f) → zoff D n = zoff D' n
  | 0, _ => rfl
  | n + 1, h => by
    show zoff D n + dL D n = zoff D' n + dL D' n
    rw [zoff_c (fun f hf => h f (by omega)), h n (by omega)]
theorem dNil_ok : zDok dNil := ⟨⟨by decide, by decide, by decide⟩, fun h hh => absurd hh (by show ¬ h < 0; omega), fun f hf => absurd hf (by show ¬ f < 0; omega), rfl, fun j hj => absurd hj (by show ¬ j < 0; omega), fun f i hf => absurd hf (by show ¬ f < 0; omega)⟩
theorem dHand_ok {D : zD} (hD : zDok D) {c : Nat} (hW : dW D < 2) (hc : c < 120) : zDok (dHand D c) := by
  obtain ⟨h1, h2, h3, h4, h5, h6⟩ := hD
  refine ⟨⟨by show dW D + 1 ≤ 2; omega, h1.2⟩, fun h hh => ?_, fun f hf => ?_, (show zoff (dHand D c) (dF D) = dJ D from (zoff_c (D := dHand D c) (D' := D) (n := dF D) (fun _ _ => rfl)).trans h4), h5, fun f i hf hi => ?_⟩
  · have hh : h < dW D + 1 := hh
    show nup (dw D) (dW D) c h < 120
    by_cases q : h = dW D
    · rw [q, nup_s]
      exact hc
    · rw [nup_n q]
      exact h2 h (by omega)
  · have := h3 f hf
    exact ⟨by show dO D f < dW D + 1; omega, this.2.1, this.2.2.1, this.2.2.2.trans (zoff_c (fun _ _ => rfl))⟩
  · have e : zoff (dHand D c) f = zoff D f := zoff_c (fun _ _ => rfl)
    rw [e]
    exact h6 f i hf hi
theorem dFin_off {D : zD} {s n : Nat} (h : n ≤ dF D) : zoff (dFin D s) n = zoff D n := zoff_c (fun f hf => nup_n (f := dL D) (by omega))
theorem dFin_ok {D : zD} (hD : zDok D) {s : Nat} (hW : 0 < dW D) (hF : dF D < 6) (hs : s < 8) : zDok (dFin D s) := by
  obtain ⟨h1, h2, h3, h4, h5, h6⟩ := hD
  refine ⟨⟨h1.1, by show dF D + 1 ≤ 6; omega, h1.2.2⟩, h2, fun f hf => ?_, ?_, fun j hj => ?_, fun f i hf hi => ?_⟩
  · have hf : f < dF D + 1 := hf
    show nup (dO D) (dF D) (dW D - 1) f < dW D ∧ nup (dS D) (dF D) s f < 8 ∧ nup (dL D) (dF D) 0 f ≤ 3 ∧ nup (dI D) (dF D) (dJ D) f = _
    by_cases q : f = dF D
    · rw [q, nup_s, nup_s, nup_s, nup_s, dFin_off (Nat.le_refl _)]
      exact ⟨by omega, hs, by omega, h4.symm⟩
    · rw [nup_n q, nup_n q, nup_n q, nup_n q, dFin_off (by omega)]
      exact h3 f (by omega)
  · show zoff (dFin D s) (dF D) + nup (dL D) (dF D) 0 (dF D) = dJ D
    rw [dFin_off (Nat.le_refl _), nup_s, h4, Nat.add_zero]
  · have := h5 j hj
    exact ⟨by show dH D j < dF D + 1; omega, this.2⟩
  · have hf : f < dF D + 1 := hf
    have hi : i < nup (dL D) (dF D) 0 f := hi
    by_cases q : f = dF D
    · rw [q, nup_s] at hi
      omega
    · rw [nup_n q] at hi
      rw [dFin_off (by omega)]
      exact h6 f i (by omega) hi
theorem dJnt_off {D : zD} {b t n : Nat} (h : n + 1 ≤ dF D) : zoff (dJnt D b t) n = zoff D n := zoff_c (fun f hf => nup_n (f := dL D) (by omega))
theorem dJnt_ok {D : zD} (hD : zDok D) {b t : Nat} (hF : 0 < dF D) (hJ : dJ D < 6) (hL : dL D (dF D - 1) < 3) (hb : b ≤ 2) (ht : t ≤ 2) : zDok (dJnt D b t) := by
  have hz : ∀ f, f < dF D → zoff D f + dL D f ≤ dJ D := fun f hf => zoff_le hD (f := f + 1) (by omega)
  obtain ⟨h1, h2, h3, h4, h5, h6⟩ := hD
  have e1 : zoff D (dF D) = zoff D (dF D - 1) + dL D (dF D - 1) := by
    obtain ⟨k, hk⟩ : ∃ k, dF D = k + 1 := ⟨dF D - 1, by omega⟩
    rw [hk]
    rfl
  refine ⟨⟨h1.1, h1.2.1, by show dJ D + 1 ≤ 6; omega⟩, h2, fun f hf => ?_, ?_, fun j hj => ?_, fun f i hf hi => ?_⟩
  · have hf : f < dF D := hf
    have r := h3 f hf
    show dO D f < dW D ∧ dS D f < 8 ∧ nup (dL D) (dF D - 1) (dL D (dF D - 1) + 1) f ≤ 3 ∧ dI D f = _
    rw [dJnt_off (by omega)]
    by_cases q : f = dF D - 1
    · rw [q, nup_s]
      rw [q] at r
      exact ⟨r.1, r.2.1, by omega, r.2.2.2⟩
    · rw [nup_n q]
      exact r
  · show zoff (dJnt D b t) (dF D) = dJ D + 1
    obtain ⟨k, hk⟩ : ∃ k, dF D = k + 1 := ⟨dF D - 1, by omega⟩
    rw [hk]
    show zoff (dJnt D b t) k + nup (dL D) (dF D - 1) (dL D (dF D - 1) + 1) k = _
    rw [dJnt_off (by omega), hk, show k + 1 - 1 = k by omega, nup_s]
    rw [hk, show k + 1 - 1 = k by omega] at e1
    rw [hk] at h4
    omega
  · have hj : j < dJ D + 1 := hj
    show nup (dH D) (dJ D) (dF D - 1) j < dF D ∧ nup (dB D) (dJ D) b j ≤ 2 ∧ nup (dA D) (dJ D) t j ≤ 2
    by_cases q : j = dJ D
    · rw [q, nup_s, nup_s, nup_s]
      exact ⟨by omega, hb, ht⟩
    · rw [nup_n q, nup_n q, nup_n q]
      exact h5 j (by omega)
  · have hf : f < dF D := hf
    have hi : i < nup (dL D) (dF D - 1) (dL D (dF D - 1) + 1) f := hi
    have hzf := hz f hf
    show nup (dH D) (dJ D) (dF D - 1) (zoff (dJnt D b t) f + i) = f
    rw [dJnt_off (by omega)]
    by_cases q : f = dF D - 1
    · rw [q, nup_s] at hi
      by_cases q2 : zoff D f + i = dJ D
      · rw [q2, nup_s, q]
      · rw [nup_n q2]
        refine h6 f i hf ?_
        rw [q] at q2 ⊢
        omega
    · rw [nup_n q] at hi
      rw [nup_n (by omega)]
      exact h6 f i hf hi
def rNum (T : Nat → Int32) (m : Nat) : Nat → Nat → Nat → Nat × Nat
  | 0, p, c => (p, c)
  | n + 1, p, c => if zfg T m p = 99 then (p, c) else rNum T m n (p + 1) (10 * c + zfg T m p)
def rHand (T : Nat → Int32) (m p : Nat) (D : zD) : Bool × Nat × zD := if dW D = 2 then (false, p, D) else if p + 1 < (rNum T m 3 (p + 1) 0).1 ∧ (rNum T m 3 (p + 1) 0).2 < 120 then (true, (rNum T m 3 (p + 1) 0).1, dHand D (rNum T m 3 (p + 1) 0).2) else (false, (rNum T m 3 (p + 1) 0).1, D)
def rJs (T : Nat → Int32) (m : Nat) : Nat → Nat → zD → Bool × Nat × zD
  | 0, p, D => (true, p, D)
  | n + 1, p, D => if zfg T m p = 99 then (true, p, D) else if dJ D = 6 ∨ 2 < zfg T m p then (false, p, D) else if 2 < zfg T m (p + 1) then (false, p + 1, D) else rJs T m n (p + 2) (dJnt D (zfg T m p) (zfg T m (p + 1)))
def rFin (T : Nat → Int32) (m p : Nat) (D : zD) : Bool × Nat × zD := if dW D = 0 ∨ dF D = 6 then (false, p, D) else if 7 < zfg T m (p + 1) then (false, p + 1, D) else rJs T m 3 (p + 2) (dFin D (zfg T m (p + 1)))
def rOne (T : Nat → Int32) (m p : Nat) (D : zD) : Bool × Nat × zD := if T p = 104 then rHand T m p D else if T p = 102 then rFin T m p D else if T p = 32 then (true, p + 1, D) else (false, p, D)
def rAll (T : Nat → Int32) (m : Nat) : Nat → Nat → zD → Int32 × zD
  | 0, _, D => (-9, D)
  | n + 1, p, D => if p < m then (if (rOne T m p D).1 = true then rAll T m n (rOne T m p D).2.1 (rOne T m p D).2.2 else (nI (rOne T m p D).2.1, (rOne T m p D).2.2)) else (-9, D)
theorem rNum_p {T : Nat → Int32} {m : Nat} : ∀ (n p c : Nat), p ≤ m → p ≤ (rNum T m n p c).1 ∧ (rNum T m n p c).1 ≤ m ∧ (rNum T m n p c).2 + 1 ≤ (c + 1) * 10 ^ n
  | 0, p, c, h => ⟨Nat.le_refl _, h, by show c + 1 ≤ (c + 1) * 1; omega⟩
  | n + 1, p, c, h => by
    unfold rNum
    rcases zfg_n (T := T) (m := m) (p := p) with ⟨e, _⟩ | ⟨h1, h2, _⟩
    · rw [if_pos e]
      exact ⟨Nat.le_refl _, h, Nat.le_mul_of_pos_right _ (Nat.pow_pos (by decide))⟩
    · rw [if_neg (by omega)]
      have ih := rNum_p (T := T) (m := m) n (p + 1) (10 * c + zfg T m p) (by omega)
      refine ⟨by omega, ih.2.1, Nat.le_trans ih.2.2 ?_⟩
      rw [Nat.pow_succ, Nat.mul_comm (10 ^ n) 10, ← Nat.mul_assoc]
      exact Nat.mul_le_mul_right _ (by omega)
def zHb (b : Nat) : Prop := b = 26 ∨ b = 35
theorem zHb_f {b : Nat} (h : zHb b) : (b + 8 < zN ∧ zsh b = (0, 2, 0) ∧ b ≠ 25 ∧ b < 40) ∧ (zref b 3 = some (b + 1) ∧ zref b 4 = some (b + 2) ∧ zref b 5 = some (b + 3) ∧ zref b 6 = some (b + 4) ∧ zref b 7 = some (b + 5) ∧ zref b 8 = some (b + 6) ∧ zref b 9 = some (b + 7) ∧ zref b 10 = some (b + 8)) ∧ (zsh (b + 1) = (1, 0, 2) ∧ zsh (b + 2) = (1, 0, 6) ∧ zsh (b + 3) = (1, 0, 6) ∧ zsh (b + 4) = (1, 0, 6) ∧ zsh (b + 5) = (1, 0, 6) ∧ zsh (b + 6) = (1, 0, 6) ∧ zsh (b + 7) = (1, 0, 6) ∧ zsh (b + 8) = (1, 0, 6)) := by
  rcases h with rfl | rfl <;> decide +kernel
theorem zHb_k {b i : Nat} (h : zHb b) (hi : i ≤ 8) : b + i < zN := by have := (zHb_f h).1.1; omega
theorem s_X2_clear {G : zG} {w : zW} {b : Nat} (hb : zHb b) : zCv G mX2_clear [.ref b] w (fun w' => zFr [b] [] [] w w' ∧ cHd w' b dNil) := by
  have hbf := (zHb_f hb).1
  refine zC_of (lo := [_]) kcX2_clear (Nat.le_of_ble_eq_true rfl) rfl (fun X hX hE => ?_)
  refine zk_aload_n hX dX2_clear_0 rfl ?_
  refine zk_iconst (v := 0) hX dX2_clear_1 (by decide) ?_
  refine zk_putI hX dX2_clear_2 plX2_36 (fun h => by cases h) (zHb_k (i := 0) hb (by decide)) (zHb_f hb).1.2.1 rfl rfl ?_
  refine zk_aload_n hX dX2_clear_5 rfl ?_
  refine zk_iconst (v := 0) hX dX2_clear_6 (by decide) ?_
  refine zk_putI hX dX2_clear_7 plX2_40 (fun h => by cases h) (zHb_k (i := 0) hb (by decide)) (zHb_f hb).1.2.1 rfl rfl ?_
  refine zk_aload_n hX dX2_clear_10 rfl ?_
  refine zk_iconst (v := 0) hX dX2_clear_11 (by decide) ?_
  refine zk_putI hX dX2_clear_12 plX2_43 (fun h => by cases h) (zHb_k (i := 0) hb (by decide)) (zHb_f hb).1.2.1 rfl rfl ?_
  refine zk_vret hX hE rfl ⟨rfl, rfl⟩ dX2_clear_15 ⟨rfl, ?_⟩
  refine ⟨zFr_t (zFr_t (zFr_i (by simp) (by omega)) (zFr_i (by simp) (by omega))) (zFr_i (by simp) (by omega)), ⟨?_, ?_, ?_⟩, fun h hh => absurd hh (by show ¬ h < 0; omega), fun h hh => absurd hh (by show ¬ h < 0; omega), fun h hh => absurd hh (by show ¬ h < 0; omega)⟩
  · rw [zsi_1, if_neg (by omega), zsi_1, if_neg (by omega), zsi_1, if_pos ⟨rfl, rfl⟩]
    rfl
  · rw [zsi_1, if_neg (by omega), zsi_1, if_pos ⟨rfl, rfl⟩]
    rfl
  · rw [zsi_1, if_pos ⟨rfl, rfl⟩]
    rfl
theorem s_X2_addHand_y {G : zG} {w : zW} {b c : Nat} {D : zD} (hb : zHb b) (hw : zWf w) (hH : cHd w b D) (hW : dW D < 2) (hc : c < 120) : zCi G mX2_addHand [.ref b, .int (nI c)] w (fun r w' => r = 1 ∧ zFr [b, b + 1] [] [] w w' ∧ cHd w' b (dHand D c)) := by
  have hbf := (zHb_f hb).1
  refine zC_of (lo := [_, _]) kcX2_addHand (Nat.le_of_ble_eq_true rfl) rfl (fun X hX hE => ?_)
  refine zk_aload_n hX dX2_addHand_0 rfl ?_
  refine zk_getI hX dX2_addHand_1 flX2_36 (zHb_k (i := 0) hb (by decide)) (zHb_f hb).1.2.1 ?_
  rw [hH.1.1]
  refine zk_iconst (v := 2) hX dX2_addHand_4 (by decide) ?_
  refine zk_icmp_ge (tgt := 18) hX dX2_addHand_5 (by decide) (fun c5 => ?_) (fun c5 => ?_)
  · exact absurd c5 (nI_ge (b := 2) hW (by decide))
  refine zk_iload_n hX dX2_addHand_8 rfl ?_
  refine zk_if_lt (tgt := 18) hX dX2_addHand_9 (by decide) (fun c9 => ?_) (fun c9 => ?_)
  · exact absurd c9 (nI_pos (by omega))
  refine zk_iload_n hX dX2_addHand_12 rfl ?_
  refine zk_bipush (v := 120) hX dX2_addHand_13 (by decide) ?_
  refine zk_icmp_lt (tgt := 20) hX dX2_addHand_15 (by decide) (fun c15 => ?_) (fun c15 => ?_)
  rotate_left
  · exact absurd (nI_lt (b := 120) hc (by decide)) c15
  refine zk_aload_n hX dX2_addHand_20 rfl ?_
  refine zk_getR hX dX2_addHand_21 flX2_9 (zHb_k (i := 0) hb (by decide)) (zHb_f hb).1.2.1 ((hw _ _ (zHb_f hb).1.2.2.1).trans (zHb_f hb).2.1.1) ?_
  refine zk_aload_n hX dX2_addHand_24 rfl ?_
  refine zk_getI hX dX2_addHand_25 flX2_36 (zHb_k (i := 0) hb (by decide)) (zHb_f hb).1.2.1 ?_
  rw [hH.1.1]
  refine zk_iload_n hX dX2_addHand_28 rfl ?_
  refine zk_iastE hX dX2_addHand_29 rfl (zHb_k hb (by decide)) (zHb_f hb).2.2.1 (by first | assumption | omega) rfl ?_
  refine zk_aload_n hX dX2_addHand_30 rfl ?_
  refine zk_dup hX dX2_addHand_31 rfl ?_
  refine zk_getI hX dX2_addHand_32 flX2_36 (zHb_k (i := 0) hb (by decide)) (zHb_f hb).1.2.1 ?_
  rw [zsi_1, if_neg (by omega), hH.1.1]
  refine zk_iconst (v := 1) hX dX2_addHand_35 (by decide) ?_
  refine zk_iadd hX dX2_addHand_36 ?_
  rw [nI_1]
  refine zk_putI hX dX2_addHand_37 plX2_36 (fun h => by cases h) (zHb_k (i := 0) hb (by decide)) (zHb_f hb).1.2.1 rfl rfl ?_
  refine zk_iconst (v := 1) hX dX2_addHand_40 (by decide) ?_
  refine zk_zret hX hE rfl ⟨rfl, rfl⟩ dX2_addHand_41 rfl ⟨_, rfl, ?_⟩
  refine ⟨rfl, zFr_t (zFr_i (by simp) (by omega)) (zFr_i (by simp) (by omega)), ⟨?_, ?_, ?_⟩, fun h hh => ?_, fun f hf => ?_, fun j hj => ?_⟩
  · rw [zsi_1, if_pos ⟨rfl, rfl⟩]
    rfl
  · rw [zsi_1, if_neg (by omega), zsi_1, if_neg (by omega)]
    exact hH.1.2.1
  · rw [zsi_1, if_neg (by omega), zsi_1, if_neg (by omega)]
    exact hH.1.2.2
  · have hh : h < dW D + 1 := hh
    show _ = nI (nup (dw D) (dW D) c h)
    rw [zsi_1, if_neg (by omega), zsi_1]
    by_cases q : h = dW D
    · rw [if_pos ⟨rfl, q⟩, q, nup_s]
    · rw [if_neg (fun z => q z.2), nup_n q]
      exact hH.2.1 h (by omega)
  · rw [zsi_o (by omega), zsi_o (by omega), zsi_o (by omega), zsi_o (by omega), zsi_o (by omega), zsi_o (by omega), zsi_o (by omega), zsi_o (by omega)]
    exact hH.2.2.1 f hf
  · rw [zsi_o (by omega), zsi_o (by omega), zsi_o (by omega), zsi_o (by omega), zsi_o (by omega), zsi_o (by omega)]
    exact hH.2.2.2 j hj
theorem s_X2_addHand_n {G : zG} {w : zW} {b c : Nat} {D : zD} (hb : zHb b) (hH : cHd w b D) (hW : dW D < 2) (hc : 120 ≤ c) (hc2 : c < 5000) : zEi G mX2_addHand [.ref b, .int (nI c)] w 0 w := by
  refine zC_of (lo := [_, _]) kcX2_addHand (Nat.le_of_ble_eq_true rfl) rfl (fun X hX hE => ?_)
  refine zk_aload_n hX dX2_addHand_0 rfl ?_
  refine zk_getI hX dX2_addHand_1 flX2_36 (zHb_k (i := 0) hb (by decide)) (zHb_f hb).1.2.1 ?_
  rw [hH.1.1]
  refine zk_iconst (v := 2) hX dX2_addHand_4 (by decide) ?_
  refine zk_icmp_ge (tgt := 18) hX dX2_addHand_5 (by decide) (fun c5 => ?_) (fun c5 => ?_)
  · exact absurd c5 (nI_ge (b := 2) hW (by decide))
  refine zk_iload_n hX dX2_addHand_8 rfl ?_
  refine zk_if_lt (tgt := 18) hX dX2_addHand_9 (by decide) (fun c9 => ?_) (fun c9 => ?_)
  · exact absurd c9 (nI_pos (by omega))
  refine zk_iload_n hX dX2_addHand_12 rfl ?_
  refine zk_bipush (v := 120) hX dX2_addHand_13 (by decide) ?_
  refine zk_icmp_lt (tgt := 20) hX dX2_addHand_15 (by decide) (fun c15 => ?_) (fun c15 => ?_)
  · exact absurd c15 (nI_nlt (b := 120) hc (by omega))
  refine zk_iconst (v := 0) hX dX2_addHand_18 (by decide) ?_
  refine zk_zret hX hE rfl ⟨rfl, rfl⟩ dX2_addHand_19 rfl ⟨_, rfl, ?_⟩
  exact ⟨rfl, rfl⟩

theorem s_X2_addFinger {G : zG} {w : zW} {b s : Nat} {D : zD} (hb : zHb b) (hw : zWf w) (hH : cHd w b D) (hD : zDok D) (hW : 0 < dW D) (hF : dF D < 6) : zCi G mX2_addFinger [.ref b, .int (nI s)] w (fun r w' => zFr [b, b + 1, b + 2, b + 3, b + 4, b + 5, b + 6, b + 7, b + 8] [] [] w w' ∧ cHd w' b (dFin D s)) := by
  have hbf := (zHb_f hb).1
  have hW2 := hD.1.1
  refine zC_of (lo := [_, _]) kcX2_addFinger (Nat.le_of_ble_eq_true rfl) rfl (fun X hX hE => ?_)
  refine zk_aload_n hX dX2_addFinger_0 rfl ?_
  refine zk_getI hX dX2_addFinger_1 flX2_36 (zHb_k (i := 0) hb (by decide)) (zHb_f hb).1.2.1 ?_
  rw [hH.1.1]
  refine zk_iconst (v := 1) hX dX2_addFinger_4 (by decide) ?_
  refine zk_icmp_lt (tgt := 17) hX dX2_addFinger_5 (by decide) (fun c5 => ?_) (fun c5 => ?_)
  · exact absurd c5 (nI_nlt (b := 1) hW (by omega))
  refine zk_aload_n hX dX2_addFinger_8 rfl ?_
  refine zk_getI hX dX2_addFinger_9 flX2_40 (zHb_k (i := 0) hb (by decide)) (zHb_f hb).1.2.1 ?_
  rw [hH.1.2.1]
  refine zk_bipush (v := 6) hX dX2_addFinger_12 (by decide) ?_
  refine zk_icmp_lt (tgt := 19) hX dX2_addFinger_14 (by decide) (fun c14 => ?_) (fun c14 => ?_)
  rotate_left
  · exact absurd (nI_lt (b := 6) hF (by decide)) c14
  refine zk_aload_n hX dX2_addFinger_19 rfl ?_
  refine zk_getR hX dX2_addFinger_20 flX2_15 (zHb_k (i := 0) hb (by decide)) (zHb_f hb).1.2.1 ((hw _ _ (zHb_f hb).1.2.2.1).trans (zHb_f hb).2.1.2.1) ?_
  refine zk_aload_n hX dX2_addFinger_23 rfl ?_
  refine zk_getI hX dX2_addFinger_24 flX2_40 (zHb_k (i := 0) hb (by decide)) (zHb_f hb).1.2.1 ?_
  rw [hH.1.2.1]
  refine zk_aload_n hX dX2_addFinger_27 rfl ?_
  refine zk_getI hX dX2_addFinger_28 flX2_36 (zHb_k (i := 0) hb (by decide)) (zHb_f hb).1.2.1 ?_
  rw [hH.1.1]
  refine zk_iconst (v := 1) hX dX2_addFinger_31 (by decide) ?_
  refine zk_isub hX dX2_addFinger_32 ?_
  rw [show (1 : Int32) = nI 1 from rfl, nI_sub hW]
  refine zk_iastE hX dX2_addFinger_33 rfl (zHb_k hb (by decide)) (zHb_f hb).2.2.2.1 (by first | assumption | omega) rfl ?_
  refine zk_aload_n hX dX2_addFinger_34 rfl ?_
  refine zk_getR hX dX2_addFinger_35 flX2_18 (zHb_k (i := 0) hb (by decide)) (zHb_f hb).1.2.1 ((hw _ _ (zHb_f hb).1.2.2.1).trans (zHb_f hb).2.1.2.2.1) ?_
  refine zk_aload_n hX dX2_addFinger_38 rfl ?_
  refine zk_getI hX dX2_addFinger_39 flX2_40 (zHb_k (i := 0) hb (by decide)) (zHb_f hb).1.2.1 ?_
  rw [zsi_1, if_neg (by omega), hH.1.2.1]
  refine zk_iload_n hX dX2_addFinger_42 rfl ?_
  refine zk_iastE hX dX2_addFinger_43 rfl (zHb_k hb (by decide)) (zHb_f hb).2.2.2.2.1 (by first | assumption | omega) rfl ?_
  refine zk_aload_n hX dX2_addFinger_44 rfl ?_
  refine zk_getR hX dX2_addFinger_45 flX2_21 (zHb_k (i := 0) hb (by decide)) (zHb_f hb).1.2.1 ((hw _ _ (zHb_f hb).1.2.2.1).trans (zHb_f hb).2.1.2.2.2.1) ?_
  refine zk_aload_n hX dX2_addFinger_48 rfl ?_
  refine zk_getI hX dX2_addFinger_49 flX2_40 (zHb_k (i := 0) hb (by decide)) (zHb_f hb).1.2.1 ?_
  rw [zsi_1, if_neg (by omega), zsi_1, if_neg (by omega), hH.1.2.1]
  refine zk_aload_n hX dX2_addFinger_52 rfl ?_
  refine zk_getI hX dX2_addFinger_53 flX2_43 (zHb_k (i := 0) hb (by decide)) (zHb_f hb).1.2.1 ?_
  rw [zsi_1, if_neg (by omega), zsi_1, if_neg (by omega), hH.1.2.2]
  refine zk_iastE hX dX2_addFinger_56 rfl (zHb_k hb (by decide)) (zHb_f hb).2.2.2.2.2.1 (by first | assumption | omega) rfl ?_
  refine zk_aload_n hX dX2_addFinger_57 rfl ?_
  refine zk_getR hX dX2_addFinger_58 flX2_24 (zHb_k (i := 0) hb (by decide)) (zHb_f hb).1.2.1 ((hw _ _ (zHb_f hb).1.2.2.1).trans (zHb_f hb).2.1.2.2.2.2.1) ?_
  refine zk_aload_n hX dX2_addFinger_61 rfl ?_
  refine zk_getI hX dX2_addFinger_62 flX2_40 (zHb_k (i := 0) hb (by decide)) (zHb_f hb).1.2.1 ?_
  rw [zsi_1, if_neg (by omega), zsi_1, if_neg (by omega), zsi_1, if_neg (by omega), hH.1.2.1]
  refine zk_iconst (v := 0) hX dX2_addFinger_65 (by decide) ?_
  refine zk_iastE hX dX2_addFinger_66 rfl (zHb_k hb (by decide)) (zHb_f hb).2.2.2.2.2.2.1 (by first | assumption | omega) rfl ?_
  refine zk_aload_n hX dX2_addFinger_67 rfl ?_
  refine zk_dup hX dX2_addFinger_68 rfl ?_
  refine zk_getI hX dX2_addFinger_69 flX2_40 (zHb_k (i := 0) hb (by decide)) (zHb_f hb).1.2.1 ?_
  rw [zsi_1, if_neg (by omega), zsi_1, if_neg (by omega), zsi_1, if_neg (by omega), zsi_1, if_neg (by omega), hH.1.2.1]
  refine zk_iconst (v := 1) hX dX2_addFinger_72 (by decide) ?_
  refine zk_iadd hX dX2_addFinger_73 ?_
  rw [nI_1]
  refine zk_putI hX dX2_addFinger_74 plX2_40 (fun h => by cases h) (zHb_k (i := 0) hb (by decide)) (zHb_f hb).1.2.1 rfl rfl ?_
  refine zk_iconst (v := 1) hX dX2_addFinger_77 (by decide) ?_
  refine zk_zret hX hE rfl ⟨rfl, rfl⟩ dX2_addFinger_78 rfl ⟨_, rfl, ?_⟩
  refine ⟨zFr_t (zFr_t (zFr_t (zFr_t (zFr_i (by simp) (by omega)) (zFr_i (by simp) (by omega))) (zFr_i (by simp) (by omega))) (zFr_i (by simp) (by omega))) (zFr_i (by simp) (by omega)), ⟨?_, ?_, ?_⟩, fun h hh => ?_, fun f hf => ?_, fun j hj => ?_⟩
  · rw [zsi_1, if_neg (by omega), zsi_1, if_neg (by omega), zsi_1, if_neg (by omega), zsi_1, if_neg (by omega), zsi_1, if_neg (by omega)]
    exact hH.1.1
  · rw [zsi_1, if_pos ⟨rfl, rfl⟩]
    rfl
  · rw [zsi_1, if_neg (by omega), zsi_1, if_neg (by omega), zsi_1, if_neg (by omega), zsi_1, if_neg (by omega), zsi_1, if_neg (by omega)]
    exact hH.1.2.2
  · rw [zsi_o (by omega), zsi_o (by omega), zsi_o (by omega), zsi_o (by omega), zsi_o (by omega)]
    exact hH.2.1 h hh
  · have hf : f < dF D + 1 := hf
    show _ = nI (nup (dO D) (dF D) (dW D - 1) f) ∧ _ = nI (nup (dS D) (dF D) s f) ∧ _ = nI (nup (dI D) (dF D) (dJ D) f) ∧ _ = nI (nup (dL D) (dF D) 0 f)
    have e2 : ∀ x y z u v : Int32, (zsi (zsi (zsi (zsi (zsi w (b + 2) (dF D) x) (b + 3) (dF D) y) (b + 4) (dF D) z) (b + 5) (dF D) u) b 1 v).1 (b + 2) f = if f = dF D then x else w.1 (b + 2) f := by
      intro x y z u v
      rw [zsi_o (by omega), zsi_o (by omega), zsi_o (by omega), zsi_o (by omega), zsi_1]
      simp
    have e3 : ∀ x y z u v : Int32, (zsi (zsi (zsi (zsi (zsi w (b + 2) (dF D) x) (b + 3) (dF D) y) (b + 4) (dF D) z) (b + 5) (dF D) u) b 1 v).1 (b + 3) f = if f = dF D then y else w.1 (b + 3) f := by
      intro x y z u v
      rw [zsi_o (by omega), zsi_o (by omega), zsi_o (by omega), zsi_1, zsi_o (by omega)]
      simp
    have e4 : ∀ x y z u v : Int32, (zsi (zsi (zsi (zsi (zsi w (b + 2) (dF D) x) (b + 3) (dF D) y) (b + 4) (dF D) z) (b + 5) (dF D) u) b 1 v).1 (b + 4) f = if f = dF D then z else w.1 (b + 4) f := by
      intro x y z u v
      rw [zsi_o (by omega), zsi_o (by omega), zsi_1, zsi_o (by omega), zsi_o (by omega)]
      simp
    have e5 : ∀ x y z u v : Int32, (zsi (zsi (zsi (zsi (zsi w (b + 2) (dF D) x) (b + 3) (dF D) y) (b + 4) (dF D) z) (b + 5) (dF D) u) b 1 v).1 (b + 5) f = if f = dF D then u else w.1 (b + 5) f := by
      intro x y z u v
      rw [zsi_o (by omega), zsi_1, zsi_o (by omega), zsi_o (by omega), zsi_o (by omega)]
      simp
    rw [e2, e3, e4, e5]
    by_cases q : f = dF D
    · rw [if_pos q, if_pos q, if_pos q, if_pos q, q, nup_s, nup_s, nup_s, nup_s]
      exact ⟨rfl, rfl, rfl, rfl⟩
    · rw [if_neg q, if_neg q, if_neg q, if_neg q, nup_n q, nup_n q, nup_n q, nup_n q]
      exact hH.2.2.1 f (by omega)
  · rw [zsi_o (by omega), zsi_o (by omega), zsi_o (by omega), zsi_o (by omega), zsi_o (by omega), zsi_o (by omega), zsi_o (by omega), zsi_o (by omega), zsi_o (by omega), zsi_o (by omega), zsi_o (by omega), zsi_o (by omega), zsi_o (by omega), zsi_o (by omega), zsi_o (by omega)]
    exact hH.2.2.2 j hj
theorem s_X2_addJoint {G : zG} {w : zW} {b s t : Nat} {D : zD} (hb : zHb b) (hw : zWf w) (hH : cHd w b D) (hD : zDok D) (hF : 0 < dF D) (hJ : dJ D < 6) : zCi G mX2_addJoint [.ref b, .int (nI s), .int (nI t)] w (fun r w' => zFr [b, b + 1, b + 2, b + 3, b + 4, b + 5, b + 6, b + 7, b + 8] [] [] w w' ∧ cHd w' b (dJnt D s t)) := by
  have hbf := (zHb_f hb).1
  have hF2 := hD.1.2.1
  have hLl := (hH.2.2.1 (dF D - 1) (by omega)).2.2.2
  refine zC_of (lo := [_, _, _]) kcX2_addJoint (Nat.le_of_ble_eq_true rfl) rfl (fun X hX hE => ?_)
  refine zk_aload_n hX dX2_addJoint_0 rfl ?_
  refine zk_getI hX dX2_addJoint_1 flX2_40 (zHb_k (i := 0) hb (by decide)) (zHb_f hb).1.2.1 ?_
  rw [hH.1.2.1]
  refine zk_iconst (v := 1) hX dX2_addJoint_4 (by decide) ?_
  refine zk_icmp_lt (tgt := 17) hX dX2_addJoint_5 (by decide) (fun c5 => ?_) (fun c5 => ?_)
  · exact absurd c5 (nI_nlt (b := 1) hF (by omega))
  refine zk_aload_n hX dX2_addJoint_8 rfl ?_
  refine zk_getI hX dX2_addJoint_9 flX2_43 (zHb_k (i := 0) hb (by decide)) (zHb_f hb).1.2.1 ?_
  rw [hH.1.2.2]
  refine zk_bipush (v := 6) hX dX2_addJoint_12 (by decide) ?_
  refine zk_icmp_lt (tgt := 19) hX dX2_addJoint_14 (by decide) (fun c14 => ?_) (fun c14 => ?_)
  rotate_left
  · exact absurd (nI_lt (b := 6) hJ (by decide)) c14
  refine zk_aload_n hX dX2_addJoint_19 rfl ?_
  refine zk_getR hX dX2_addJoint_20 flX2_27 (zHb_k (i := 0) hb (by decide)) (zHb_f hb).1.2.1 ((hw _ _ (zHb_f hb).1.2.2.1).trans (zHb_f hb).2.1.2.2.2.2.2.1) ?_
  refine zk_aload_n hX dX2_addJoint_23 rfl ?_
  refine zk_getI hX dX2_addJoint_24 flX2_43 (zHb_k (i := 0) hb (by decide)) (zHb_f hb).1.2.1 ?_
  rw [hH.1.2.2]
  refine zk_aload_n hX dX2_addJoint_27 rfl ?_
  refine zk_getI hX dX2_addJoint_28 flX2_40 (zHb_k (i := 0) hb (by decide)) (zHb_f hb).1.2.1 ?_
  rw [hH.1.2.1]
  refine zk_iconst (v := 1) hX dX2_addJoint_31 (by decide) ?_
  refine zk_isub hX dX2_addJoint_32 ?_
  rw [show (1 : Int32) = nI 1 from rfl, nI_sub hF]
  refine zk_iastE hX dX2_addJoint_33 rfl (zHb_k hb (by decide)) (zHb_f hb).2.2.2.2.2.2.2.1 (by first | assumption | omega) rfl ?_
  refine zk_aload_n hX dX2_addJoint_34 rfl ?_
  refine zk_getR hX dX2_addJoint_35 flX2_30 (zHb_k (i := 0) hb (by decide)) (zHb_f hb).1.2.1 ((hw _ _ (zHb_f hb).1.2.2.1).trans (zHb_f hb).2.1.2.2.2.2.2.2.1) ?_
  refine zk_aload_n hX dX2_addJoint_38 rfl ?_
  refine zk_getI hX dX2_addJoint_39 flX2_43 (zHb_k (i := 0) hb (by decide)) (zHb_f hb).1.2.1 ?_
  rw [zsi_1, if_neg (by omega), hH.1.2.2]
  refine zk_iload_n hX dX2_addJoint_42 rfl ?_
  refine zk_iastE hX dX2_addJoint_43 rfl (zHb_k hb (by decide)) (zHb_f hb).2.2.2.2.2.2.2.2.1 (by first | assumption | omega) rfl ?_
  refine zk_aload_n hX dX2_addJoint_44 rfl ?_
  refine zk_getR hX dX2_addJoint_45 flX2_33 (zHb_k (i := 0) hb (by decide)) (zHb_f hb).1.2.1 ((hw _ _ (zHb_f hb).1.2.2.1).trans (zHb_f hb).2.1.2.2.2.2.2.2.2) ?_
  refine zk_aload_n hX dX2_addJoint_48 rfl ?_
  refine zk_getI hX dX2_addJoint_49 flX2_43 (zHb_k (i := 0) hb (by decide)) (zHb_f hb).1.2.1 ?_
  rw [zsi_1, if_neg (by omega), zsi_1, if_neg (by omega), hH.1.2.2]
  refine zk_iload_n hX dX2_addJoint_52 rfl ?_
  refine zk_iastE hX dX2_addJoint_53 rfl (zHb_k hb (by decide)) (zHb_f hb).2.2.2.2.2.2.2.2.2 (by first | assumption | omega) rfl ?_
  refine zk_aload_n hX dX2_addJoint_54 rfl ?_
  refine zk_dup hX dX2_addJoint_55 rfl ?_
  refine zk_getI hX dX2_addJoint_56 flX2_43 (zHb_k (i := 0) hb (by decide)) (zHb_f hb).1.2.1 ?_
  rw [zsi_1, if_neg (by omega), zsi_1, if_neg (by omega), zsi_1, if_neg (by omega), hH.1.2.2]
  refine zk_iconst (v := 1) hX dX2_addJoint_59 (by decide) ?_
  refine zk_iadd hX dX2_addJoint_60 ?_
  rw [nI_1]
  refine zk_putI hX dX2_addJoint_61 plX2_43 (fun h => by cases h) (zHb_k (i := 0) hb (by decide)) (zHb_f hb).1.2.1 rfl rfl ?_
  refine zk_aload_n hX dX2_addJoint_64 rfl ?_
  refine zk_getR hX dX2_addJoint_65 flX2_24 (zHb_k (i := 0) hb (by decide)) (zHb_f hb).1.2.1 ((hw _ _ (zHb_f hb).1.2.2.1).trans (zHb_f hb).2.1.2.2.2.2.1) ?_
  refine zk_aload_n hX dX2_addJoint_68 rfl ?_
  refine zk_getI hX dX2_addJoint_69 flX2_40 (zHb_k (i := 0) hb (by decide)) (zHb_f hb).1.2.1 ?_
  rw [zsi_1, if_neg (by omega), zsi_1, if_neg (by omega), zsi_1, if_neg (by omega), zsi_1, if_neg (by omega), hH.1.2.1]
  refine zk_iconst (v := 1) hX dX2_addJoint_72 (by decide) ?_
  refine zk_isub hX dX2_addJoint_73 ?_
  rw [show (1 : Int32) = nI 1 from rfl, nI_sub hF]
  refine zk_dup2 hX dX2_addJoint_74 rfl rfl ?_
  refine zk_ialdE hX dX2_addJoint_75 rfl (zHb_k hb (by decide)) (zHb_f hb).2.2.2.2.2.2.1 (by first | assumption | omega) rfl ?_
  rw [zsi_o (by omega), zsi_o (by omega), zsi_o (by omega), zsi_o (by omega), hLl]
  refine zk_iconst (v := 1) hX dX2_addJoint_76 (by decide) ?_
  refine zk_iadd hX dX2_addJoint_77 ?_
  rw [nI_1]
  refine zk_iastE hX dX2_addJoint_78 rfl (zHb_k hb (by decide)) (zHb_f hb).2.2.2.2.2.2.1 (by first | assumption | omega) rfl ?_
  refine zk_iconst (v := 1) hX dX2_addJoint_79 (by decide) ?_
  refine zk_zret hX hE rfl ⟨rfl, rfl⟩ dX2_addJoint_80 rfl ⟨_, rfl, ?_⟩
  refine ⟨zFr_t (zFr_t (zFr_t (zFr_t (zFr_i (by simp) (by omega)) (zFr_i (by simp) (by omega))) (zFr_i (by simp) (by omega))) (zFr_i (by simp) (by omega))) (zFr_i (by simp) (by omega)), ⟨?_, ?_, ?_⟩, fun h hh => ?_, fun f hf => ?_, fun j hj => ?_⟩
  · rw [zsi_1, if_neg (by omega), zsi_1, if_neg (by omega), zsi_1, if_neg (by omega), zsi_1, if_neg (by omega), zsi_1, if_neg (by omega)]
    exact hH.1.1
  · rw [zsi_1, if_neg (by omega), zsi_1, if_neg (by omega), zsi_1, if_neg (by omega), zsi_1, if_neg (by omega), zsi_1, if_neg (by omega)]
    exact hH.1.2.1
  · rw [zsi_1, if_neg (by omega), zsi_1, if_pos ⟨rfl, rfl⟩]
    rfl
  · rw [zsi_o (by omega), zsi_o (by omega), zsi_o (by omega), zsi_o (by omega), zsi_o (by omega)]
    exact hH.2.1 h hh
  · have hf : f < dF D := hf
    show _ ∧ _ ∧ _ ∧ _ = nI (nup (dL D) (dF D - 1) (dL D (dF D - 1) + 1) f)
    have r := hH.2.2.1 f hf
    refine ⟨?_, ?_, ?_, ?_⟩
    · rw [zsi_o (by omega), zsi_o (by omega), zsi_o (by omega), zsi_o (by omega), zsi_o (by omega)]
      exact r.1
    · rw [zsi_o (by omega), zsi_o (by omega), zsi_o (by omega), zsi_o (by omega), zsi_o (by omega)]
      exact r.2.1
    · rw [zsi_o (by omega), zsi_o (by omega), zsi_o (by omega), zsi_o (by omega), zsi_o (by omega)]
      exact r.2.2.1
    · rw [zsi_1]
      by_cases q : f = dF D - 1
      · rw [if_pos ⟨rfl, q⟩, q, nup_s]
      · rw [if_neg (fun z => q z.2), nup_n q, zsi_o (by omega), zsi_o (by omega), zsi_o (by omega), zsi_o (by omega)]
        exact r.2.2.2
  · have hj : j < dJ D + 1 := hj
    show _ = nI (nup (dH D) (dJ D) (dF D - 1) j) ∧ _ = nI (nup (dB D) (dJ D) s j) ∧ _ = nI (nup (dA D) (dJ D) t j)
    have e6 : ∀ x y z u v : Int32, (zsi (zsi (zsi (zsi (zsi w (b + 6) (dJ D) x) (b + 7) (dJ D) y) (b + 8) (dJ D) z) b 2 u) (b + 5) (dF D - 1) v).1 (b + 6) j = if j = dJ D then x else w.1 (b + 6) j := by
      intro x y z u v
      rw [zsi_o (by omega), zsi_o (by omega), zsi_o (by omega), zsi_o (by omega), zsi_1]
      simp
    have e7 : ∀ x y z u v : Int32, (zsi (zsi (zsi (zsi (zsi w (b + 6) (dJ D) x) (b + 7) (dJ D) y) (b + 8) (dJ D) z) b 2 u) (b + 5) (dF D - 1) v).1 (b + 7) j = if j = dJ D then y else w.1 (b + 7) j := by
      intro x y z u v
      rw [zsi_o (by omega), zsi_o (by omega), zsi_o (by omega), zsi_1, zsi_o (by omega)]
      simp
    have e8 : ∀ x y z u v : Int32, (zsi (zsi (zsi (zsi (zsi w (b + 6) (dJ D) x) (b + 7) (dJ D) y) (b + 8) (dJ D) z) b 2 u) (b + 5) (dF D - 1) v).1 (b + 8) j = if j = dJ D then z else w.1 (b + 8) j := by
      intro x y z u v
      rw [zsi_o (by omega), zsi_o (by omega), zsi_1, zsi_o (by omega), zsi_o (by omega)]
      simp
    rw [e6, e7, e8]
    by_cases q : j = dJ D
    · rw [if_pos q, if_pos q, if_pos q, q, nup_s, nup_s, nup_s]
      exact ⟨rfl, rfl, rfl⟩
    · rw [if_neg q, if_neg q, if_neg q, nup_n q, nup_n q, nup_n q]
      exact hH.2.2.2 j (by omega)

