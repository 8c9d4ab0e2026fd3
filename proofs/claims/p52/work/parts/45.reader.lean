/-- the reader at place p -/
def cRd (w : zW) (a b m p : Nat) (D : zD) : Prop := (w.2.2 25 0 = some a ∧ w.2.2 25 1 = some b) ∧ w.1 25 2 = nI p ∧ cHd w b D ∧ w.1 a 0 = nI m
theorem cRd_f {w w1 : zW} {a b m p q : Nat} {D : zD} (h : cRd w a b m p D) (ha : a < 25) (hb : zHb b) (hF : zFr [25] [] [] w w1) (hq : w1.1 25 2 = nI q) : cRd w1 a b m q D := by
  have hbf := (zHb_f hb).1
  have h26 : 26 ≤ b := by rcases hb with rfl | rfl <;> decide
  refine ⟨by rw [hF.1]; exact h.1, hq, cHd_o h.2.2.1 (fun c h1 h2 => hF.2.1 c (by simp; omega) (by omega)), ?_⟩
  rw [hF.2.1 a (by simp; omega) (by omega)]
  exact h.2.2.2
theorem zFr_s' {A A' : List Nat} {w w' : zW} (h : zFr A [] [] w w') (hs : ∀ a, a ∈ A → a ∈ A' := by simp) : zFr A' [] [] w w' := ⟨h.1, fun a h1 h2 => h.2.1 a (fun q => h1 (hs a q)) h2, h.2.2.1, h.2.2.2⟩
theorem zfi_t {n : Nat} (h : n ≤ 9) : zfi n = nI n := if_neg (by omega)
theorem zfi_m {T : Nat → Int32} {m p : Nat} : zfi (zfg T m p) = -1 ↔ zfg T m p = 99 := by
  rcases zfg_n (T := T) (m := m) (p := p) with ⟨e, _⟩ | ⟨_, h2, _⟩
  · rw [e]
    exact ⟨fun _ => rfl, fun _ => rfl⟩
  · rw [zfi_t h2]
    exact ⟨fun q => absurd q (fun q => by
      have q1 : (0 : Int32) ≤ nI (zfg T m p) := nI_pos' (by omega)
      rw [q] at q1
      exact absurd q1 (by decide)), fun q => by omega⟩
theorem s_X7_figure {G : zG} {w : zW} {a b m p : Nat} {D : zD} (hw : zWf w) (hA : zRw a 80) (hm : m ≤ 80) (hp : p ≤ 80) (hR : cRd w a b m p D) : zEi G mX7_figure [.ref 25] w (zfi (zfg (w.1 (a + 1)) m p)) w := by
  have hS : zSz (w.1 a 0) 80 := Or.inr ⟨m, hm, hR.2.2.2⟩
  have hpm : (0 ≤ nI p ∧ nI p < w.1 a 0) ↔ p < m := by
    rw [hR.2.2.2]
    exact ⟨fun q => (nI_ltI (by omega) (by omega)).mp q.2, fun q => ⟨nI_pos' (by omega), nI_lt q (by omega)⟩⟩
  refine zC_of (lo := [_, _]) kcX7_figure (Nat.le_of_ble_eq_true rfl) rfl (fun X hX hE => ?_)
  refine zk_aload_n hX dX7_figure_0 rfl ?_
  refine zk_getR hX dX7_figure_1 flX7_9 k_25 z_25 hR.1.1 ?_
  refine zk_aload_n hX dX7_figure_4 rfl ?_
  refine zk_getI hX dX7_figure_5 flX7_19 k_25 z_25 ?_
  rw [hR.2.1]
  refine zk_V1i hX dX7_figure_8 kcX8_holds mlX7_77 viX8_holds rfl (zRw_k0 hA) hA.1.2.1 (s_X8_holds hA _) (Nat.le_of_ble_eq_true rfl) rfl ?_
  refine zk_if_neB (tgt := 16) hX dX7_figure_11 (by decide) (fun c11 => ?_) (fun c11 => ?_)
  · refine zk_aload_n hX dX7_figure_16 rfl ?_
    refine zk_getR hX dX7_figure_17 flX7_9 k_25 z_25 hR.1.1 ?_
    refine zk_aload_n hX dX7_figure_20 rfl ?_
    refine zk_getI hX dX7_figure_21 flX7_19 k_25 z_25 ?_
    rw [hR.2.1]
    refine zk_V1i hX dX7_figure_24 kcX8_get mlX7_37 viX8_get rfl (zRw_k0 hA) hA.1.2.1 (s_X8_get hA hw hS _) (Nat.le_of_ble_eq_true rfl) rfl ?_
    have hp2 := hpm.mp (by first | exact c11 | exact Decidable.not_not.mp c11)
    rw [zRget_in hR.2.2.2 (by omega) hp2]
    refine zk_istore_n (lo' := [_, _]) hX dX7_figure_27 (Nat.le_of_ble_eq_true rfl) rfl rfl ?_
    refine zk_iload_n hX dX7_figure_28 rfl ?_
    refine zk_bipush (v := 48) hX dX7_figure_29 (by decide) ?_
    refine zk_icmp_lt (tgt := 47) hX dX7_figure_31 (by decide) (fun c31 => ?_) (fun c31 => ?_)
    · refine zk_iconst (v := -1) hX dX7_figure_47 (by decide) ?_
      refine zk_iret hX hE rfl ⟨rfl, rfl⟩ dX7_figure_48 ⟨_, rfl, ?_⟩
      refine ⟨?_, rfl⟩
      rcases zfg_n (T := w.1 (a + 1)) (m := m) (p := p) with ⟨e, h⟩ | ⟨h1, h2, h3⟩
      · first
          | (rw [e]; rfl)
          | (exfalso; exact h ⟨hp2, by grind, by grind⟩)
      · first
          | exact h3.trans (zfi_t h2).symm
          | (exfalso; exact c11 (hpm.mpr h1.1))
          | (exfalso; have := h1.2; grind)
    · refine zk_iload_n hX dX7_figure_34 rfl ?_
      refine zk_bipush (v := 57) hX dX7_figure_35 (by decide) ?_
      refine zk_icmp_gt (tgt := 47) hX dX7_figure_37 (by decide) (fun c37 => ?_) (fun c37 => ?_)
      · refine zk_iconst (v := -1) hX dX7_figure_47 (by decide) ?_
        refine zk_iret hX hE rfl ⟨rfl, rfl⟩ dX7_figure_48 ⟨_, rfl, ?_⟩
        refine ⟨?_, rfl⟩
        rcases zfg_n (T := w.1 (a + 1)) (m := m) (p := p) with ⟨e, h⟩ | ⟨h1, h2, h3⟩
        · first
            | (rw [e]; rfl)
            | (exfalso; exact h ⟨hp2, by grind, by grind⟩)
        · first
            | exact h3.trans (zfi_t h2).symm
            | (exfalso; exact c11 (hpm.mpr h1.1))
            | (exfalso; have := h1.2; grind)
      · refine zk_iload_n hX dX7_figure_40 rfl ?_
        refine zk_bipush (v := 48) hX dX7_figure_41 (by decide) ?_
        refine zk_isub hX dX7_figure_43 ?_
        refine zk_goto (tgt := 48) hX dX7_figure_44 (by decide) ?_
        refine zk_iret hX hE rfl ⟨rfl, rfl⟩ dX7_figure_48 ⟨_, rfl, ?_⟩
        refine ⟨?_, rfl⟩
        rcases zfg_n (T := w.1 (a + 1)) (m := m) (p := p) with ⟨e, h⟩ | ⟨h1, h2, h3⟩
        · first
            | (rw [e]; rfl)
            | (exfalso; exact h ⟨hp2, by grind, by grind⟩)
        · first
            | exact h3.trans (zfi_t h2).symm
            | (exfalso; exact c11 (hpm.mpr h1.1))
            | (exfalso; have := h1.2; grind)
  · refine zk_iconst (v := -1) hX dX7_figure_14 (by decide) ?_
    refine zk_iret hX hE rfl ⟨rfl, rfl⟩ dX7_figure_15 ⟨_, rfl, ?_⟩
    refine ⟨?_, rfl⟩
    rcases zfg_n (T := w.1 (a + 1)) (m := m) (p := p) with ⟨e, h⟩ | ⟨h1, h2, h3⟩
    · first
        | (rw [e]; rfl)
        | (exfalso; exact h ⟨hp2, by grind, by grind⟩)
    · first
        | exact h3.trans (zfi_t h2).symm
        | (exfalso; exact c11 (hpm.mpr h1.1))
        | (exfalso; have := h1.2; grind)
theorem s_X7_readHand {G : zG} {w : zW} {a b m p : Nat} {D : zD} (hw : zWf w) (hA : zRw a 80) (ha : a < 25) (hb : zHb b) (hm : m ≤ 80) (hp : p < m) (hD : zDok D) (hR : cRd w a b m p D) :
    zCi G mX7_readHand [.ref 25] w (fun r w' => r = zb ((rHand (w.1 (a + 1)) m p D).1 = true) ∧ zFr [25, b, b + 1, b + 2, b + 3, b + 4, b + 5, b + 6, b + 7, b + 8] [] [] w w' ∧ cRd w' a b m (rHand (w.1 (a + 1)) m p D).2.1 (rHand (w.1 (a + 1)) m p D).2.2) := by
  have hW2 := hD.1.1
  have hbf := (zHb_f hb).1
  have h26 : 26 ≤ b := by rcases hb with rfl | rfl <;> decide
  have hc999 := (rNum_p (T := w.1 (a + 1)) (m := m) 3 (p + 1) 0 (by omega))
  have h1000 : (0 + 1) * 10 ^ 3 = 1000 := by decide
  rw [h1000] at hc999
  refine zC_of (lo := [_, _, _, _]) kcX7_readHand (Nat.le_of_ble_eq_true rfl) rfl (fun X hX hE => ?_)
  have fin : ∀ c i w1 (v : Value), dW D < 2 → i ≤ 3 → zFr [25] [] [] w w1 → w1.1 25 2 = nI (p + 1 + i) → (p + 1 + i, c) = rNum (w.1 (a + 1)) m 3 (p + 1) 0 → zk0 G X mX7_readHand 71 [.ref 25, .int (nI c), .int (nI i), v] [] w1 := by
    intro c i w1 v hW hi hF hq he
    have hw1 := zFr_wf hF hw
    have hR1 := cRd_f hR ha hb hF hq
    have e1 : (rNum (w.1 (a + 1)) m 3 (p + 1) 0).1 = p + 1 + i := by rw [← he]
    have e2 : (rNum (w.1 (a + 1)) m 3 (p + 1) 0).2 = c := by rw [← he]
    rw [e1, e2] at hc999
    have eH : rHand (w.1 (a + 1)) m p D = if p + 1 < p + 1 + i ∧ c < 120 then (true, p + 1 + i, dHand D c) else (false, p + 1 + i, D) := by
      unfold rHand
      rw [if_neg (by omega), e1, e2]
    rw [eH] at hE
    by_cases hi0 : 0 < i
    · by_cases hc : c < 120
      · rw [if_pos ⟨by omega, hc⟩] at hE
        refine zk_iload_n hX dX7_readHand_71 rfl ?_
        refine zk_if_le (tgt := 90) hX dX7_readHand_72 (by decide) (fun c72 => ?_) (fun c72 => ?_)
        · exact absurd c72 (nI_nle hi0 (by omega))
        refine zk_aload_n hX dX7_readHand_75 rfl ?_
        refine zk_getR hX dX7_readHand_76 flX7_15 k_25 z_25 hR1.1.2 ?_
        refine zk_iload_n hX dX7_readHand_79 rfl ?_
        refine zk_V1ip hX dX7_readHand_80 kcX2_addHand mlX7_54 viX2_addHand rfl (zHb_k (i := 0) hb (by decide)) (zHb_f hb).1.2.1 (s_X2_addHand_y hb hw1 hR1.2.2.1 hW hc) (Nat.le_of_ble_eq_true rfl) rfl (fun r w2 q2 => ?_)
        obtain ⟨rfl, q2, q3⟩ := q2
        refine zk_if_eq (tgt := 90) hX dX7_readHand_83 (by decide) (fun c83 => ?_) (fun c83 => ?_)
        · exact absurd c83 (by decide)
        refine zk_iconst (v := 1) hX dX7_readHand_86 (by decide) ?_
        refine zk_goto (tgt := 91) hX dX7_readHand_87 (by decide) ?_
        refine zk_zret hX hE rfl ⟨rfl, rfl⟩ dX7_readHand_91 rfl ⟨_, rfl, ?_⟩
        refine ⟨(zb_t rfl).symm, zFr_t (zFr_s' hF) (zFr_s' q2), ⟨by rw [q2.1, hF.1]; exact hR.1, ?_, q3, ?_⟩⟩
        · rw [q2.2.1 25 (by simp; omega) (by decide), hq]
        · rw [q2.2.1 a (by simp; omega) (by omega)]
          exact hR1.2.2.2
      · rw [if_neg (fun z => hc z.2)] at hE
        refine zk_iload_n hX dX7_readHand_71 rfl ?_
        refine zk_if_le (tgt := 90) hX dX7_readHand_72 (by decide) (fun c72 => ?_) (fun c72 => ?_)
        · exact absurd c72 (nI_nle hi0 (by omega))
        refine zk_aload_n hX dX7_readHand_75 rfl ?_
        refine zk_getR hX dX7_readHand_76 flX7_15 k_25 z_25 hR1.1.2 ?_
        refine zk_iload_n hX dX7_readHand_79 rfl ?_
        refine zk_V1i hX dX7_readHand_80 kcX2_addHand mlX7_54 viX2_addHand rfl (zHb_k (i := 0) hb (by decide)) (zHb_f hb).1.2.1 (s_X2_addHand_n hb hR1.2.2.1 hW (by omega) (by omega)) (Nat.le_of_ble_eq_true rfl) rfl ?_
        refine zk_if_eq (tgt := 90) hX dX7_readHand_83 (by decide) (fun c83 => ?_) (fun c83 => ?_)
        rotate_left
        · exact absurd rfl c83
        refine zk_iconst (v := 0) hX dX7_readHand_90 (by decide) ?_
        refine zk_zret hX hE rfl ⟨rfl, rfl⟩ dX7_readHand_91 rfl ⟨_, rfl, ?_⟩
        exact ⟨(zb_f (fun q => by cases q)).symm, zFr_s' hF, hR1⟩
    · rw [if_neg (fun z => by omega)] at hE
      refine zk_iload_n hX dX7_readHand_71 rfl ?_
      refine zk_if_le (tgt := 90) hX dX7_readHand_72 (by decide) (fun c72 => ?_) (fun c72 => ?_)
      rotate_left
      · exact absurd (nI_le (b := 0) (by omega) (by decide)) c72
      refine zk_iconst (v := 0) hX dX7_readHand_90 (by decide) ?_
      refine zk_zret hX hE rfl ⟨rfl, rfl⟩ dX7_readHand_91 rfl ⟨_, rfl, ?_⟩
      exact ⟨(zb_f (fun q => by cases q)).symm, zFr_s' hF, hR1⟩
  have loop : dW D < 2 → ∀ n i c w1, i + n = 3 → zFr [25] [] [] w w1 → w1.1 25 2 = nI (p + 1 + i) → p + 1 + i ≤ m → rNum (w.1 (a + 1)) m n (p + 1 + i) c = rNum (w.1 (a + 1)) m 3 (p + 1) 0 → zk0 G X mX7_readHand 29 [.ref 25, .int (nI c), .int (nI i), .int (nI i)] [] w1 := by
    intro hW n
    induction n with
    | zero =>
      intro i c w1 hi hF hq hpm he
      refine zk_iload_n hX dX7_readHand_29 rfl ?_
      refine zk_iconst (v := 3) hX dX7_readHand_30 (by decide) ?_
      refine zk_icmp_ge (tgt := 71) hX dX7_readHand_31 (by decide) (fun c31 => ?_) (fun c31 => ?_)
      rotate_left
      · exact absurd (nI_le (a := 3) (by omega) (by omega)) c31
      exact fin c i w1 _ hW (by omega) hF hq he
    | succ n ih =>
      intro i c w1 hi hF hq hpm he
      have hw1 := zFr_wf hF hw
      have hR1 := cRd_f hR ha hb hF hq
      have eT : w1.1 (a + 1) = w.1 (a + 1) := hF.2.1 (a + 1) (by simp; rintro rfl; exact absurd hA.1.2.1 (by decide +kernel)) (by omega)
      have cf := s_X7_figure (G := G) hw1 hA hm (show p + 1 + i ≤ 80 by omega) hR1
      rw [eT] at cf
      unfold rNum at he
      rcases zfg_n (T := w.1 (a + 1)) (m := m) (p := p + 1 + i) with ⟨e, _⟩ | ⟨h1, h2, _⟩
      · rw [if_pos e] at he
        refine zk_iload_n hX dX7_readHand_29 rfl ?_
        refine zk_iconst (v := 3) hX dX7_readHand_30 (by decide) ?_
        refine zk_icmp_ge (tgt := 71) hX dX7_readHand_31 (by decide) (fun c31 => ?_) (fun c31 => ?_)
        · exact absurd c31 (nI_ge (b := 3) (by omega) (by decide))
        refine zk_aload_n hX dX7_readHand_34 rfl ?_
        refine zk_V0i hX dX7_readHand_35 kcX7_figure mlX7_50 viX7_figure rfl k_25 z_25 cf (Nat.le_of_ble_eq_true rfl) rfl ?_
        refine zk_iconst (v := -1) hX dX7_readHand_38 (by decide) ?_
        refine zk_icmp_eq (tgt := 71) hX dX7_readHand_39 (by decide) (fun c39 => ?_) (fun c39 => ?_)
        rotate_left
        · exact absurd (zfi_m.mpr e) c39
        exact fin c i w1 _ hW (by omega) hF hq he
      · rw [if_neg (by omega)] at he
        have hc10 : nI 10 * nI c + nI (zfg (w.1 (a + 1)) m (p + 1 + i)) = nI (10 * c + zfg (w.1 (a + 1)) m (p + 1 + i)) := by rw [nI_mul, nI_add]
        refine zk_iload_n hX dX7_readHand_29 rfl ?_
        refine zk_iconst (v := 3) hX dX7_readHand_30 (by decide) ?_
        refine zk_icmp_ge (tgt := 71) hX dX7_readHand_31 (by decide) (fun c31 => ?_) (fun c31 => ?_)
        · exact absurd c31 (nI_ge (b := 3) (by omega) (by decide))
        refine zk_aload_n hX dX7_readHand_34 rfl ?_
        refine zk_V0i hX dX7_readHand_35 kcX7_figure mlX7_50 viX7_figure rfl k_25 z_25 cf (Nat.le_of_ble_eq_true rfl) rfl ?_
        refine zk_iconst (v := -1) hX dX7_readHand_38 (by decide) ?_
        refine zk_icmp_eq (tgt := 71) hX dX7_readHand_39 (by decide) (fun c39 => ?_) (fun c39 => ?_)
        · exact absurd c39 (fun q => by have := zfi_m.mp q; omega)
        refine zk_bipush (v := 10) hX dX7_readHand_42 (by decide) ?_
        refine zk_iload_n hX dX7_readHand_44 rfl ?_
        refine zk_imul hX dX7_readHand_45 ?_
        refine zk_aload_n hX dX7_readHand_46 rfl ?_
        refine zk_V0i hX dX7_readHand_47 kcX7_figure mlX7_50 viX7_figure rfl k_25 z_25 cf (Nat.le_of_ble_eq_true rfl) rfl ?_
        rw [zfi_t h2, show (10 : Int32) = nI 10 from rfl]
        refine zk_iadd hX dX7_readHand_50 ?_
        rw [hc10]
        refine zk_istore_n (lo' := [_, _, _, _]) hX dX7_readHand_51 (Nat.le_of_ble_eq_true rfl) rfl rfl ?_
        refine zk_iinc (lo' := [_, _, _, _]) hX dX7_readHand_52 rfl (by first | exact zinc _ | exact rfl) (Nat.le_of_ble_eq_true rfl) rfl rfl ?_
        refine zk_aload_n hX dX7_readHand_55 rfl ?_
        refine zk_dup hX dX7_readHand_56 rfl ?_
        refine zk_getI hX dX7_readHand_57 flX7_19 k_25 z_25 ?_
        rw [hq]
        refine zk_iconst (v := 1) hX dX7_readHand_60 (by decide) ?_
        refine zk_iadd hX dX7_readHand_61 ?_
        rw [nI_1]
        refine zk_putI hX dX7_readHand_62 plX7_19 (fun h => by cases h) k_25 z_25 rfl rfl ?_
        refine zk_iinc (lo' := [_, _, _, _]) hX dX7_readHand_65 rfl (by first | exact zinc _ | exact rfl) (Nat.le_of_ble_eq_true rfl) rfl rfl ?_
        refine zk_goto (tgt := 29) hX dX7_readHand_68 (by decide) ?_
        exact ih (i + 1) _ _ (by omega) (zFr_t hF (zFr_i (by decide) (by decide))) (by rw [zsi_1, if_pos ⟨rfl, rfl⟩]; rfl) (by omega) he
  by_cases hW : dW D = 2
  · have eH : rHand (w.1 (a + 1)) m p D = (false, p, D) := if_pos hW
    rw [eH] at hE
    refine zk_aload_n hX dX7_readHand_0 rfl ?_
    refine zk_getR hX dX7_readHand_1 flX7_15 k_25 z_25 hR.1.2 ?_
    refine zk_getI hX dX7_readHand_4 flX7_47 (zHb_k (i := 0) hb (by decide)) (zHb_f hb).1.2.1 ?_
    rw [hR.2.2.1.1.1]
    refine zk_iconst (v := 2) hX dX7_readHand_7 (by decide) ?_
    refine zk_icmp_lt (tgt := 13) hX dX7_readHand_8 (by decide) (fun c8 => ?_) (fun c8 => ?_)
    · exact absurd c8 (nI_nlt (b := 2) (by omega) (by omega))
    refine zk_iconst (v := 0) hX dX7_readHand_11 (by decide) ?_
    refine zk_zret hX hE rfl ⟨rfl, rfl⟩ dX7_readHand_12 rfl ⟨_, rfl, ?_⟩
    exact ⟨(zb_f (fun q => by cases q)).symm, zFr_r, hR⟩
  · refine zk_aload_n hX dX7_readHand_0 rfl ?_
    refine zk_getR hX dX7_readHand_1 flX7_15 k_25 z_25 hR.1.2 ?_
    refine zk_getI hX dX7_readHand_4 flX7_47 (zHb_k (i := 0) hb (by decide)) (zHb_f hb).1.2.1 ?_
    rw [hR.2.2.1.1.1]
    refine zk_iconst (v := 2) hX dX7_readHand_7 (by decide) ?_
    refine zk_icmp_lt (tgt := 13) hX dX7_readHand_8 (by decide) (fun c8 => ?_) (fun c8 => ?_)
    rotate_left
    · exact absurd (nI_lt (b := 2) (by omega) (by omega)) c8
    refine zk_aload_n hX dX7_readHand_13 rfl ?_
    refine zk_dup hX dX7_readHand_14 rfl ?_
    refine zk_getI hX dX7_readHand_15 flX7_19 k_25 z_25 ?_
    rw [hR.2.1]
    refine zk_iconst (v := 1) hX dX7_readHand_18 (by decide) ?_
    refine zk_iadd hX dX7_readHand_19 ?_
    rw [nI_1]
    refine zk_putI hX dX7_readHand_20 plX7_19 (fun h => by cases h) k_25 z_25 rfl rfl ?_
    refine zk_iconst (v := 0) hX dX7_readHand_23 (by decide) ?_
    refine zk_istore_n (lo' := [_, _, _, _]) hX dX7_readHand_24 (Nat.le_of_ble_eq_true rfl) rfl rfl ?_
    refine zk_iconst (v := 0) hX dX7_readHand_25 (by decide) ?_
    refine zk_istore_n (lo' := [_, _, _, _]) hX dX7_readHand_26 (Nat.le_of_ble_eq_true rfl) rfl rfl ?_
    refine zk_iconst (v := 0) hX dX7_readHand_27 (by decide) ?_
    refine zk_istore_n (lo' := [_, _, _, _]) hX dX7_readHand_28 (Nat.le_of_ble_eq_true rfl) rfl rfl ?_
    exact loop (by omega) 3 0 0 _ (by omega) (zFr_i (by decide) (by decide)) (by rw [zsi_1, if_pos ⟨rfl, rfl⟩]) (by omega) rfl
theorem s_X7_isTurn {G : zG} {w : zW} {n : Nat} (hn : n ≤ 9 ∨ n = 99) : zEi G mX7_isTurn [.int (zfi n)] w (zb (¬ 2 < n)) w := by
  refine zC_of (lo := [_]) kcX7_isTurn (Nat.le_of_ble_eq_true rfl) rfl (fun X hX hE => ?_)
  refine zk_iload_n hX dX7_isTurn_0 rfl ?_
  refine zk_if_lt (tgt := 13) hX dX7_isTurn_1 (by decide) (fun c1 => ?_) (fun c1 => ?_)
  · refine zk_iconst (v := 0) hX dX7_isTurn_13 (by decide) ?_
    refine zk_zret hX hE rfl ⟨rfl, rfl⟩ dX7_isTurn_14 rfl ⟨_, rfl, ?_⟩
    refine ⟨?_, rfl⟩
    rcases hn with hn | rfl
    · rw [zfi_t hn] at *
      first
        | exact zb_t' (fun q => c6 (nI_lt (a := 2) q (by omega)))
        | exact zb_f' (fun q => q ((nI_ltI (a := 2) (by decide) (by omega)).mp c6))
        | exact absurd c1 (nI_pos (by omega))
    · first
        | exact zb_f' (fun q => q (by decide))
        | exact absurd (by decide) c1
  · refine zk_iload_n hX dX7_isTurn_4 rfl ?_
    refine zk_iconst (v := 2) hX dX7_isTurn_5 (by decide) ?_
    refine zk_icmp_gt (tgt := 13) hX dX7_isTurn_6 (by decide) (fun c6 => ?_) (fun c6 => ?_)
    · refine zk_iconst (v := 0) hX dX7_isTurn_13 (by decide) ?_
      refine zk_zret hX hE rfl ⟨rfl, rfl⟩ dX7_isTurn_14 rfl ⟨_, rfl, ?_⟩
      refine ⟨?_, rfl⟩
      rcases hn with hn | rfl
      · rw [zfi_t hn] at *
        first
          | exact zb_t' (fun q => c6 (nI_lt (a := 2) q (by omega)))
          | exact zb_f' (fun q => q ((nI_ltI (a := 2) (by decide) (by omega)).mp c6))
          | exact absurd c1 (nI_pos (by omega))
      · first
          | exact zb_f' (fun q => q (by decide))
          | exact absurd (by decide) c1
    · refine zk_iconst (v := 1) hX dX7_isTurn_9 (by decide) ?_
      refine zk_goto (tgt := 14) hX dX7_isTurn_10 (by decide) ?_
      refine zk_zret hX hE rfl ⟨rfl, rfl⟩ dX7_isTurn_14 rfl ⟨_, rfl, ?_⟩
      refine ⟨?_, rfl⟩
      rcases hn with hn | rfl
      · rw [zfi_t hn] at *
        first
          | exact zb_t' (fun q => c6 (nI_lt (a := 2) q (by omega)))
          | exact zb_f' (fun q => q ((nI_ltI (a := 2) (by decide) (by omega)).mp c6))
          | exact absurd c1 (nI_pos (by omega))
      · first
          | exact zb_f' (fun q => q (by decide))
          | exact absurd (by decide) c1
theorem zfg_9 {T : Nat → Int32} {m p : Nat} : zfg T m p ≤ 9 ∨ zfg T m p = 99 := by
  rcases zfg_n (T := T) (m := m) (p := p) with ⟨e, _⟩ | ⟨_, h2, _⟩
  · exact Or.inr e
  · exact Or.inl h2
theorem zfg_p {T : Nat → Int32} {m p : Nat} (h : ¬ zfg T m p = 99) : p < m := by
  rcases zfg_n (T := T) (m := m) (p := p) with ⟨e, _⟩ | ⟨h1, h2, _⟩
  · exact absurd e h
  · exact h1.1
/-- one pair of figures -/
theorem s_X7_readJoint {G : zG} {w : zW} {a b m p : Nat} {D : zD} (hw : zWf w) (hA : zRw a 80) (ha : a < 25) (hb : zHb b) (hm : m ≤ 80) (hp : ¬ zfg (w.1 (a + 1)) m p = 99) (hD : zDok D) (hF0 : 0 < dF D) (hR : cRd w a b m p D) :
    zCi G mX7_readJoint [.ref 25] w (fun r w' => zFr [25, b, b + 1, b + 2, b + 3, b + 4, b + 5, b + 6, b + 7, b + 8] [] [] w w' ∧ (((dJ D = 6 ∨ 2 < zfg (w.1 (a + 1)) m p) ∧ r = 0 ∧ cRd w' a b m p D) ∨ (¬ (dJ D = 6 ∨ 2 < zfg (w.1 (a + 1)) m p) ∧ 2 < zfg (w.1 (a + 1)) m (p + 1) ∧ r = 0 ∧ cRd w' a b m (p + 1) D) ∨
      (¬ (dJ D = 6 ∨ 2 < zfg (w.1 (a + 1)) m p) ∧ ¬ 2 < zfg (w.1 (a + 1)) m (p + 1) ∧ r = 1 ∧ cRd w' a b m (p + 2) (dJnt D (zfg (w.1 (a + 1)) m p) (zfg (w.1 (a + 1)) m (p + 1)))))) := by
  have hpm := zfg_p hp
  have h6 := hD.1.2.2
  have hbf := (zHb_f hb).1
  have h26 : 26 ≤ b := by rcases hb with rfl | rfl <;> decide
  have cf := s_X7_figure (G := G) hw hA hm (show p ≤ 80 by omega) hR
  have hFp : zFr [25] [] [] w (zsi w 25 2 (nI (p + 1))) := zFr_i (by decide) (by decide)
  have hR1 := cRd_f (q := p + 1) hR ha hb hFp (by rw [zsi_1, if_pos ⟨rfl, rfl⟩])
  have eT : (zsi w 25 2 (nI (p + 1))).1 (a + 1) = w.1 (a + 1) := zsi_o (by rintro e; have := hA.1.2.1; rw [show a = 24 by omega] at this; exact absurd this (by decide +kernel))
  have cf1 := s_X7_figure (G := G) (zWf_i hw) hA hm (show p + 1 ≤ 80 by omega) hR1
  rw [eT] at cf1
  refine zC_of (lo := [_, _]) kcX7_readJoint (Nat.le_of_ble_eq_true rfl) rfl (fun X hX hE => ?_)
  refine zk_aload_n hX dX7_readJoint_0 rfl ?_
  refine zk_getR hX dX7_readJoint_1 flX7_15 k_25 z_25 hR.1.2 ?_
  refine zk_getI hX dX7_readJoint_4 flX7_67 (zHb_k (i := 0) hb (by decide)) (zHb_f hb).1.2.1 ?_
  rw [hR.2.2.1.1.2.2]
  refine zk_bipush (v := 6) hX dX7_readJoint_7 (by decide) ?_
  refine zk_icmp_ge (tgt := 22) hX dX7_readJoint_9 (by decide) (fun c9 => ?_) (fun c9 => ?_)
  · refine zk_iconst (v := 0) hX dX7_readJoint_22 (by decide) ?_
    refine zk_zret hX hE rfl ⟨rfl, rfl⟩ dX7_readJoint_23 rfl ⟨_, rfl, ?_⟩
    refine ⟨zFr_r, Or.inl ⟨?_, rfl, hR⟩⟩
    first
      | (refine Or.inl ?_
         have := nI_leD (a := 6) c9
         omega)
      | exact Or.inr (Decidable.not_not.mp c19)
  · refine zk_aload_n hX dX7_readJoint_12 rfl ?_
    refine zk_V0i hX dX7_readJoint_13 kcX7_figure mlX7_50 viX7_figure rfl k_25 z_25 cf (Nat.le_of_ble_eq_true rfl) rfl ?_
    refine zk_S1i hX dX7_readJoint_16 kcX7_isTurn mlX7_70 smX7_isTurn rfl (s_X7_isTurn zfg_9) (Nat.le_of_ble_eq_true rfl) rfl ?_
    refine zk_if_neB (tgt := 24) hX dX7_readJoint_19 (by decide) (fun c19 => ?_) (fun c19 => ?_)
    · refine zk_aload_n hX dX7_readJoint_24 rfl ?_
      refine zk_V0i hX dX7_readJoint_25 kcX7_figure mlX7_50 viX7_figure rfl k_25 z_25 cf (Nat.le_of_ble_eq_true rfl) rfl ?_
      refine zk_istore_n (lo' := [_, _]) hX dX7_readJoint_28 (Nat.le_of_ble_eq_true rfl) rfl rfl ?_
      refine zk_aload_n hX dX7_readJoint_29 rfl ?_
      refine zk_dup hX dX7_readJoint_30 rfl ?_
      refine zk_getI hX dX7_readJoint_31 flX7_19 k_25 z_25 ?_
      rw [hR.2.1]
      refine zk_iconst (v := 1) hX dX7_readJoint_34 (by decide) ?_
      refine zk_iadd hX dX7_readJoint_35 ?_
      rw [nI_1]
      refine zk_putI hX dX7_readJoint_36 plX7_19 (fun h => by cases h) k_25 z_25 rfl rfl ?_
      refine zk_aload_n hX dX7_readJoint_39 rfl ?_
      refine zk_V0i hX dX7_readJoint_40 kcX7_figure mlX7_50 viX7_figure rfl k_25 z_25 cf1 (Nat.le_of_ble_eq_true rfl) rfl ?_
      refine zk_S1i hX dX7_readJoint_43 kcX7_isTurn mlX7_70 smX7_isTurn rfl (s_X7_isTurn zfg_9) (Nat.le_of_ble_eq_true rfl) rfl ?_
      refine zk_if_neB (tgt := 51) hX dX7_readJoint_46 (by decide) (fun c46 => ?_) (fun c46 => ?_)
      · refine zk_aload_n hX dX7_readJoint_51 rfl ?_
        refine zk_getR hX dX7_readJoint_52 flX7_15 k_25 z_25 hR1.1.2 ?_
        refine zk_iload_n hX dX7_readJoint_55 rfl ?_
        refine zk_aload_n hX dX7_readJoint_56 rfl ?_
        refine zk_V0i hX dX7_readJoint_57 kcX7_figure mlX7_50 viX7_figure rfl k_25 z_25 cf1 (Nat.le_of_ble_eq_true rfl) rfl ?_
        have hj : dJ D < 6 := by
          rcases Nat.lt_or_ge (dJ D) 6 with q | q
          · exact q
          · exact absurd (nI_le (a := 6) q (by omega)) c9
        have hs : ¬ 2 < zfg (w.1 (a + 1)) m p := by first | exact c19 | exact Decidable.not_not.mp c19
        have ht : ¬ 2 < zfg (w.1 (a + 1)) m (p + 1) := by first | exact c46 | exact Decidable.not_not.mp c46
        rw [zfi_t (by omega), zfi_t (by omega)]
        refine zk_V2ip hX dX7_readJoint_60 kcX2_addJoint mlX7_73 viX2_addJoint rfl (zHb_k (i := 0) hb (by decide)) (zHb_f hb).1.2.1 (s_X2_addJoint hb (zWf_i hw) hR1.2.2.1 hD hF0 hj) (Nat.le_of_ble_eq_true rfl) rfl (fun r w2 q2 => ?_)
        have hw2 := zFr_wf q2.1 (zWf_i hw)
        refine zk_pop hX dX7_readJoint_63 rfl ?_
        refine zk_aload_n hX dX7_readJoint_64 rfl ?_
        refine zk_dup hX dX7_readJoint_65 rfl ?_
        refine zk_getI hX dX7_readJoint_66 flX7_19 k_25 z_25 ?_
        rw [q2.1.2.1 25 (by simp; omega) (by decide), zsi_1, if_pos ⟨rfl, rfl⟩]
        refine zk_iconst (v := 1) hX dX7_readJoint_69 (by decide) ?_
        refine zk_iadd hX dX7_readJoint_70 ?_
        rw [nI_1]
        refine zk_putI hX dX7_readJoint_71 plX7_19 (fun h => by cases h) k_25 z_25 rfl rfl ?_
        refine zk_iconst (v := 1) hX dX7_readJoint_74 (by decide) ?_
        refine zk_zret hX hE rfl ⟨rfl, rfl⟩ dX7_readJoint_75 rfl ⟨_, rfl, ?_⟩
        refine ⟨zFr_t (zFr_t (zFr_s' hFp) (zFr_s' q2.1)) (zFr_i (by simp) (by decide)), Or.inr (Or.inr ⟨fun q => q.elim (fun q => by omega) hs, ht, rfl, ?_⟩)⟩
        refine ⟨by rw [show (zsi w2 25 2 (nI (p + 1 + 1))).2.2 = w2.2.2 from rfl, q2.1.1]; exact hR1.1, by rw [zsi_1, if_pos ⟨rfl, rfl⟩], cHd_o q2.2 (fun c h1 h2 => zsi_o (by omega)), ?_⟩
        rw [zsi_o (by omega), q2.1.2.1 a (by simp; omega) (by omega)]
        exact hR1.2.2.2
      · refine zk_iconst (v := 0) hX dX7_readJoint_49 (by decide) ?_
        refine zk_zret hX hE rfl ⟨rfl, rfl⟩ dX7_readJoint_50 rfl ⟨_, rfl, ?_⟩
        refine ⟨zFr_s' hFp, Or.inr (Or.inl ⟨?_, Decidable.not_not.mp c46, rfl, hR1⟩)⟩
        rintro (q | q)
        · exact c9 (nI_le (a := 6) (by omega) (by omega))
        · first
            | exact c19 q
            | exact absurd q c19
            | exact absurd q (Decidable.not_not.mp c19)
    · refine zk_iconst (v := 0) hX dX7_readJoint_22 (by decide) ?_
      refine zk_zret hX hE rfl ⟨rfl, rfl⟩ dX7_readJoint_23 rfl ⟨_, rfl, ?_⟩
      refine ⟨zFr_r, Or.inl ⟨?_, rfl, hR⟩⟩
      first
        | (refine Or.inl ?_
           have := nI_leD (a := 6) c9
           omega)
        | exact Or.inr (Decidable.not_not.mp c19)

