def zTc (k : Nat) : Prop := k < zN ∧ zsh k = (1, 0, 6)
/-- what may have changed: cells of ints, cells of longs, the model's own fields -/
def zFr (A B F : List Nat) (w w' : zW) : Prop := w'.2.2 = w.2.2 ∧ (∀ a, a ∉ A → a ≠ 166 → w'.1 a = w.1 a) ∧ (∀ a, a ∉ B → w'.2.1 a = w.2.1 a) ∧ ∀ i, i ∉ F → w'.1 166 i = w.1 166 i
theorem zFr_r {A B F : List Nat} {w : zW} : zFr A B F w w := ⟨rfl, fun _ _ _ => rfl, fun _ _ => rfl, fun _ _ => rfl⟩
theorem zFr_t {A B F : List Nat} {w w1 w2 : zW} (h : zFr A B F w w1) (h' : zFr A B F w1 w2) : zFr A B F w w2 :=
  ⟨h'.1.trans h.1, fun a h1 h2 => (h'.2.1 a h1 h2).trans (h.2.1 a h1 h2), fun a h1 => (h'.2.2.1 a h1).trans (h.2.2.1 a h1), fun i h1 => (h'.2.2.2 i h1).trans (h.2.2.2 i h1)⟩
theorem zFr_s {A B F A' B' F' : List Nat} {w w' : zW} (h : zFr A B F w w') (hs : (A.all (A'.contains ·) && B.all (B'.contains ·) && F.all (F'.contains ·)) = true) : zFr A' B' F' w w' := by
  simp only [Bool.and_eq_true, List.all_eq_true, List.contains_iff_mem] at hs
  exact ⟨h.1, fun a h1 h2 => h.2.1 a (fun q => h1 (hs.1.1 a q)) h2, fun a h1 => h.2.2.1 a (fun q => h1 (hs.1.2 a q)), fun i h1 => h.2.2.2 i (fun q => h1 (hs.2 i q))⟩
theorem zFr_wf {A B F : List Nat} {w w' : zW} (h : zFr A B F w w') (hw : zWf w) : zWf w' := zWf_of hw h.1
theorem zFr_i {A B F : List Nat} {w : zW} {k j : Nat} {x : Int32} (h : k ∈ A) (h2 : k ≠ 166) : zFr A B F w (zsi w k j x) := by
  refine ⟨rfl, fun a h1 _ => ?_, fun _ _ => rfl, fun i _ => ?_⟩
  · funext i
    exact if_neg (fun (q : a = k ∧ i = j) => h1 (q.1.symm ▸ h))
  · exact if_neg (fun (q : 166 = k ∧ i = j) => h2 q.1.symm)
theorem zFr_l {A B F : List Nat} {w : zW} {k j : Nat} {x : Int64} (h : k ∈ B) : zFr A B F w (zsl w k j x) := by
  refine ⟨rfl, fun a _ _ => rfl, fun a h1 => ?_, fun i _ => rfl⟩
  funext i
  exact if_neg (fun (q : a = k ∧ i = j) => h1 (q.1.symm ▸ h))
theorem zFr_S {A B F : List Nat} {w : zW} {k : Nat} {S : zS} (h : k ∈ B) : zFr A B F w (zsetS w k S) := zFr_t (zFr_l h) (zFr_l h)
/-- hands, as the class holds them -/
def cHd (w : zW) (b : Nat) (D : zD) : Prop := (w.1 b 0 = nI (dW D) ∧ w.1 b 1 = nI (dF D) ∧ w.1 b 2 = nI (dJ D)) ∧ (∀ h, h < dW D → w.1 (b + 1) h = nI (dw D h)) ∧
  (∀ f, f < dF D → w.1 (b + 2) f = nI (dO D f) ∧ w.1 (b + 3) f = nI (dS D f) ∧ w.1 (b + 4) f = nI (dI D f) ∧ w.1 (b + 5) f = nI (dL D f)) ∧
  ∀ j, j < dJ D → w.1 (b + 6) j = nI (dH D j) ∧ w.1 (b + 7) j = nI (dB D j) ∧ w.1 (b + 8) j = nI (dA D j)
theorem cHd_o {w w' : zW} {b : Nat} {D : zD} (h : cHd w b D) (e : ∀ a, b ≤ a → a ≤ b + 8 → w'.1 a = w.1 a) : cHd w' b D := by
  unfold cHd
  rw [e b (by omega) (by omega), e (b + 1) (by omega) (by omega), e (b + 2) (by omega) (by omega), e (b + 3) (by omega) (by omega), e (b + 4) (by omega) (by omega), e (b + 5) (by omega) (by omega), e (b + 6) (by omega) (by omega), e (b + 7) (by omega) (by omega), e (b + 8) (by omega) (by omega)]
  exact h
/-- in how many ways a joint turns -/
def zsp (D : zD) (j : Nat) : Nat := dB D j + dA D j + 1
theorem zsp_b {D : zD} (hD : zDok D) {j : Nat} (hj : j < dJ D) : 1 ≤ zsp D j ∧ zsp D j ≤ 5 := by
  have := hD.2.2.2.2.1 j hj
  unfold zsp
  omega
theorem s_X2_span {G : zG} {w : zW} {D : zD} (hw : zWf w) (hH : cHd w 26 D) (hD : zDok D) {j : Nat} (hj : j < dJ D) : zEi G mX2_span [.ref 26, .int (nI j)] w (nI (zsp D j)) w := by
  have h6 := hD.1.2.2
  have hb := zsp_b hD hj
  refine zC_of (lo := [_, _]) kcX2_span (Nat.le_of_ble_eq_true rfl) rfl (fun X hX hE => ?_)
  refine zk_iload_n hX dX2_span_0 rfl ?_
  refine zk_if_lt (tgt := 34) hX dX2_span_1 (by decide) (fun c1 => ?_) (fun c1 => ?_)
  · exact absurd c1 (nI_pos (by omega))
  refine zk_iload_n hX dX2_span_4 rfl ?_
  refine zk_aload_n hX dX2_span_5 rfl ?_
  refine zk_getI hX dX2_span_6 flX2_43 k_26 z_26 ?_
  rw [hH.1.2.2]
  refine zk_icmp_ge (tgt := 34) hX dX2_span_9 (by decide) (fun c9 => ?_) (fun c9 => ?_)
  · exact absurd c9 (nI_ge hj (by omega))
  refine zk_aload_n hX dX2_span_12 rfl ?_
  refine zk_getR hX dX2_span_13 flX2_30 k_26 z_26 (hw _ _ (by decide) |>.trans r_26_9) ?_
  refine zk_iload_n hX dX2_span_16 rfl ?_
  refine zk_ialdE hX dX2_span_17 rfl k_33 z_33 (by first | assumption | omega) rfl ?_
  rw [(hH.2.2.2 j hj).2.1]
  refine zk_aload_n hX dX2_span_18 rfl ?_
  refine zk_getR hX dX2_span_19 flX2_33 k_26 z_26 (hw _ _ (by decide) |>.trans r_26_10) ?_
  refine zk_iload_n hX dX2_span_22 rfl ?_
  refine zk_ialdE hX dX2_span_23 rfl k_34 z_34 (by first | assumption | omega) rfl ?_
  rw [(hH.2.2.2 j hj).2.2]
  refine zk_iadd hX dX2_span_24 ?_
  refine zk_iconst (v := 1) hX dX2_span_25 (by decide) ?_
  refine zk_iadd hX dX2_span_26 ?_
  refine zk_iconst (v := 1) hX dX2_span_27 (by decide) ?_
  refine zk_mmax hX dX2_span_28 mlX2_46 ⟨rfl, rfl⟩ ?_
  refine zk_goto (tgt := 35) hX dX2_span_31 (by decide) ?_
  refine zk_iret hX hE rfl ⟨rfl, rfl⟩ dX2_span_35 ⟨_, rfl, ?_⟩
  refine ⟨?_, rfl⟩
  rw [nI_add, nI_1]
  exact if_neg (nI_nlt (b := 1) (by omega) (by unfold zsp at hb; omega))
theorem s_X2_canTurn {G : zG} {w : zW} {D : zD} {a : Nat} (hw : zWf w) (hH : cHd w 26 D) (hD : zDok D) {L : Nat} (hA : zRw a L) (hS : zSz (w.1 a 0) L) :
    zEi G mX2_canTurn [.ref 26, .ref a] w (zb (∀ j, j < dJ D → -nI (dB D j) ≤ zRget w a (nI j) ∧ zRget w a (nI j) ≤ nI (dA D j))) w := by
  have h6 := hD.1.2.2
  refine zC_of (lo := [_, _, _]) kcX2_canTurn (Nat.le_of_ble_eq_true rfl) rfl (fun X hX hE => ?_)
  have loop : ∀ z i, i + z = dJ D → (∀ j, j < i → -nI (dB D j) ≤ zRget w a (nI j) ∧ zRget w a (nI j) ≤ nI (dA D j)) → zk0 G X mX2_canTurn 2 [.ref 26, .ref a, .int (nI i)] [] w := by
    intro z
    induction z with
    | zero =>
      intro i hi hb
      refine zk_iload_n hX dX2_canTurn_2 rfl ?_
      refine zk_aload_n hX dX2_canTurn_3 rfl ?_
      refine zk_getI hX dX2_canTurn_4 flX2_43 k_26 z_26 ?_
      rw [hH.1.2.2]
      refine zk_icmp_ge (tgt := 47) hX dX2_canTurn_7 (by decide) (fun c7 => ?_) (fun c7 => ?_)
      rotate_left
      · exact absurd (nI_le (by omega) (by omega)) c7
      refine zk_iconst (v := 1) hX dX2_canTurn_47 (by decide) ?_
      refine zk_zret hX hE rfl ⟨rfl, rfl⟩ dX2_canTurn_48 rfl ⟨_, rfl, ?_⟩
      exact ⟨zb_t' (fun j hj => hb j (by omega)), rfl⟩
    | succ z ih =>
      intro i hi hb
      refine zk_iload_n hX dX2_canTurn_2 rfl ?_
      refine zk_aload_n hX dX2_canTurn_3 rfl ?_
      refine zk_getI hX dX2_canTurn_4 flX2_43 k_26 z_26 ?_
      rw [hH.1.2.2]
      refine zk_icmp_ge (tgt := 47) hX dX2_canTurn_7 (by decide) (fun c7 => ?_) (fun c7 => ?_)
      · exact absurd c7 (nI_ge (by omega) (by omega))
      refine zk_aload_n hX dX2_canTurn_10 rfl ?_
      refine zk_iload_n hX dX2_canTurn_11 rfl ?_
      refine zk_V1i hX dX2_canTurn_12 kcX8_get mlX2_52 viX8_get rfl (zRw_k0 hA) hA.1.2.1 (s_X8_get hA hw hS _) (Nat.le_of_ble_eq_true rfl) rfl ?_
      refine zk_aload_n hX dX2_canTurn_15 rfl ?_
      refine zk_getR hX dX2_canTurn_16 flX2_30 k_26 z_26 (hw _ _ (by decide) |>.trans r_26_9) ?_
      refine zk_iload_n hX dX2_canTurn_19 rfl ?_
      refine zk_ialdE hX dX2_canTurn_20 rfl k_33 z_33 (by first | assumption | omega) rfl ?_
      rw [(hH.2.2.2 i (by omega)).2.1]
      refine zk_ineg hX dX2_canTurn_21 ?_
      refine zk_icmp_lt (tgt := 39) hX dX2_canTurn_22 (by decide) (fun c22 => ?_) (fun c22 => ?_)
      · refine zk_iconst (v := 0) hX dX2_canTurn_39 (by decide) ?_
        refine zk_zret hX hE rfl ⟨rfl, rfl⟩ dX2_canTurn_40 rfl ⟨_, rfl, ?_⟩
        refine ⟨zb_f' (fun q => ?_), rfl⟩
        have q1 := q i (by omega)
        grind
      · refine zk_aload_n hX dX2_canTurn_25 rfl ?_
        refine zk_iload_n hX dX2_canTurn_26 rfl ?_
        refine zk_V1i hX dX2_canTurn_27 kcX8_get mlX2_52 viX8_get rfl (zRw_k0 hA) hA.1.2.1 (s_X8_get hA hw hS _) (Nat.le_of_ble_eq_true rfl) rfl ?_
        refine zk_aload_n hX dX2_canTurn_30 rfl ?_
        refine zk_getR hX dX2_canTurn_31 flX2_33 k_26 z_26 (hw _ _ (by decide) |>.trans r_26_10) ?_
        refine zk_iload_n hX dX2_canTurn_34 rfl ?_
        refine zk_ialdE hX dX2_canTurn_35 rfl k_34 z_34 (by first | assumption | omega) rfl ?_
        rw [(hH.2.2.2 i (by omega)).2.2]
        refine zk_icmp_le (tgt := 41) hX dX2_canTurn_36 (by decide) (fun c36 => ?_) (fun c36 => ?_)
        · refine zk_iinc (lo' := [_, _, _]) hX dX2_canTurn_41 rfl (by first | exact zinc _ | exact rfl) (Nat.le_of_ble_eq_true rfl) rfl rfl ?_
          refine zk_goto (tgt := 2) hX dX2_canTurn_44 (by decide) ?_
          refine ih (i + 1) (by omega) (fun j hj => ?_)
          rcases Nat.lt_succ_iff_lt_or_eq.mp hj with h | rfl
          · exact hb j h
          · grind
        · refine zk_iconst (v := 0) hX dX2_canTurn_39 (by decide) ?_
          refine zk_zret hX hE rfl ⟨rfl, rfl⟩ dX2_canTurn_40 rfl ⟨_, rfl, ?_⟩
          refine ⟨zb_f' (fun q => ?_), rfl⟩
          have q1 := q i (by omega)
          grind
  refine zk_iconst (v := 0) hX dX2_canTurn_0 (by decide) ?_
  refine zk_istore_n (lo' := [_, _, _]) hX dX2_canTurn_1 (Nat.le_of_ble_eq_true rfl) rfl rfl ?_
  exact loop (dJ D) 0 (by omega) (fun j hj => absurd hj (by omega))
/-- one more point -/
theorem s_X1_addP {G : zG} {w : zW} {k : Nat} {S : zS} (hC : zCe k) (h : zHas w k S) (x y : Int32) : zEi G mX1_addNew [.ref k, .int x, .int y] w (zb (zwr1 S (x, y) = 0)) (zsetS w k (zdk1 S (x, y))) := by
  by_cases q : zon (x, y)
  · obtain ⟨x', y', hx, hy, e⟩ := zon_nat q
    obtain ⟨rfl, rfl⟩ := Prod.mk.inj e
    have h1 := s_X1_addNew (G := G) hC h hx hy
    have e2 : zdk1 S (nI x', nI y') = zput S (12 * y' + x') := by unfold zdk1; rw [if_pos q, zcel_nI hx hy]
    have e3 : zb (zwr1 S (nI x', nI y') = 0) = zb (¬ S (12 * y' + x') = true) := zb_c (by rw [zwr1_0, zcel_nI hx hy]; exact ⟨fun z => by rw [z.2]; decide, fun z => ⟨q, by simpa using z⟩⟩)
    rw [e2, e3]
    exact h1
  · have e2 : zdk1 S (x, y) = S := by unfold zdk1; rw [if_neg q]
    have e3 : zb (zwr1 S (x, y) = 0) = 0 := zb_f (fun z => q (zwr1_0.mp z).1)
    rw [e2, e3, zsetS_id h]
    exact s_X1_addNew_out x y q
theorem zwr1_1 {S : zS} {p : zPt} (h : ¬ zwr1 S p = 0) : zwr1 S p = 1 := by
  unfold zwr1 at *
  split
  · rename_i q
    exact absurd (if_pos q) h
  · rfl
theorem zwrL_le : ∀ (L : List zPt) (S : zS), zwrL S L ≤ L.length
  | [], _ => Nat.le_refl _
  | p :: L, S => by
    have := zwrL_le L (zdk1 S p)
    have h : zwr1 S p ≤ 1 := by unfold zwr1; split <;> omega
    show zwr1 S p + zwrL (zdk1 S p) L ≤ L.length + 1
    omega
theorem s_X2_wristCells {G : zG} {w : zW} {D : zD} {k : Nat} (hw : zWf w) (hH : cHd w 26 D) (hD : zDok D) (hC : zCe k) (o : Int32) :
    zEi G mX2_wristCells [.ref 26, .int o, .ref k] w (nI (zwrL zno (zLw D o (dW D)))) (zsetS w k (zdkL zno (zLw D o (dW D)))) := by
  have h2 := hD.1.1
  have hwS : ∀ S, zWf (zsetS w k S) := fun S => zWf_of hw rfl
  refine zC_of (lo := [_, _, _, _, _, _]) kcX2_wristCells (Nat.le_of_ble_eq_true rfl) rfl (fun X hX hE => ?_)
  have loop : ∀ z i (v : Value), i + z = dW D → zk0 G X mX2_wristCells 9 [.ref 26, .int o, .ref k, .int (nI (zwrL zno (zLw D o i))), .int (nI i), v] [] (zsetS w k (zdkL zno (zLw D o i))) := by
    intro z
    induction z with
    | zero =>
      intro i v hi
      obtain rfl : i = dW D := by omega
      refine zk_iload hX dX2_wristCells_9 rfl ?_
      refine zk_aload_n hX dX2_wristCells_11 rfl ?_
      refine zk_getI hX dX2_wristCells_12 flX2_36 k_26 z_26 ?_
      rw [zsetS_1, hH.1.1]
      refine zk_icmp_ge (tgt := 77) hX dX2_wristCells_15 (by decide) (fun c15 => ?_) (fun c15 => ?_)
      rotate_left
      · exact absurd (nI_le (Nat.le_refl _) (by omega)) c15
      refine zk_iload_n hX dX2_wristCells_77 rfl ?_
      refine zk_iret hX hE rfl ⟨rfl, rfl⟩ dX2_wristCells_78 ⟨_, rfl, ?_⟩
      exact ⟨rfl, rfl⟩
    | succ z ih =>
      intro i v hi
      have hd := hD.2.1 i (by omega)
      have ea : (o = -1 ∨ o = nI i) → zLw D o (i + 1) = zLw D o i ++ [zwt D i] := fun q => by show zLw D o i ++ (if _ then _ else _) = _; rw [if_pos q]
      have eb : ¬ (o = -1 ∨ o = nI i) → zLw D o (i + 1) = zLw D o i := fun q => by show zLw D o i ++ (if _ then _ else _) = _; rw [if_neg q, List.append_nil]
      have k29 : (o = -1 ∨ o = nI i) → zk0 G X mX2_wristCells 29 [.ref 26, .int o, .ref k, .int (nI (zwrL zno (zLw D o i))), .int (nI i), v] [] (zsetS w k (zdkL zno (zLw D o i))) := by
        intro q
        have e1 := ea q
        have h0 := ih (i + 1)
        rw [e1, zdkL_app, zdkL_1, zwrL_app, zwrL_1] at h0
        refine zk_iconst (v := 1) hX dX2_wristCells_29 (by decide) ?_
        refine zk_goto (tgt := 34) hX dX2_wristCells_30 (by decide) ?_
        refine zk_istore (lo' := [_, _, _, _, _, _]) hX dX2_wristCells_34 (Nat.le_of_ble_eq_true rfl) rfl rfl ?_
        refine zk_iload hX dX2_wristCells_36 rfl ?_
        refine zk_if_eq (tgt := 71) hX dX2_wristCells_38 (by decide) (fun c38 => ?_) (fun c38 => ?_)
        · exact absurd c38 (by decide)
        refine zk_aload_n hX dX2_wristCells_41 rfl ?_
        refine zk_aload_n hX dX2_wristCells_42 rfl ?_
        refine zk_getR hX dX2_wristCells_43 flX2_9 k_26 z_26 ((hwS _) _ _ (by decide) |>.trans r_26_3) ?_
        refine zk_iload hX dX2_wristCells_46 rfl ?_
        refine zk_ialdE hX dX2_wristCells_48 rfl k_27 z_27 (by first | assumption | omega) rfl ?_
        rw [zsetS_1, hH.2.1 i (by omega)]
        refine zk_bipush (v := 12) hX dX2_wristCells_49 (by decide) ?_
        refine zk_irem hX dX2_wristCells_51 (by decide) ?_
        rw [show (12 : Int32) = nI 12 from rfl, nI_rem (by omega) (by decide)]
        refine zk_aload_n hX dX2_wristCells_52 rfl ?_
        refine zk_getR hX dX2_wristCells_53 flX2_9 k_26 z_26 ((hwS _) _ _ (by decide) |>.trans r_26_3) ?_
        refine zk_iload hX dX2_wristCells_56 rfl ?_
        refine zk_ialdE hX dX2_wristCells_58 rfl k_27 z_27 (by first | assumption | omega) rfl ?_
        rw [zsetS_1, hH.2.1 i (by omega)]
        refine zk_bipush (v := 12) hX dX2_wristCells_59 (by decide) ?_
        refine zk_idiv hX dX2_wristCells_61 (by decide) ?_
        rw [show (12 : Int32) = nI 12 from rfl, nI_div (by omega) (by decide)]
        refine zk_V2i hX dX2_wristCells_62 kcX1_addNew mlX2_69 viX1_addNew rfl hC.1 hC.2 (s_X1_addP hC zsetS_has _ _) (Nat.le_of_ble_eq_true rfl) rfl ?_
        rw [zsetS_ss]
        refine zk_if_neB (tgt := 71) hX dX2_wristCells_65 (by decide) (fun c65 => ?_) (fun c65 => ?_)
        · refine zk_iinc (lo' := [_, _, _, _, _, _]) hX dX2_wristCells_71 rfl (by first | exact zinc _ | exact rfl) (Nat.le_of_ble_eq_true rfl) rfl rfl ?_
          refine zk_goto (tgt := 9) hX dX2_wristCells_74 (by decide) ?_
          first
          | (rw [show zwr1 (zdkL zno (zLw D o i)) (zwt D i) = 0 from c65, Nat.add_zero] at h0
             exact h0 _ (by omega))
          | (rw [show zwr1 (zdkL zno (zLw D o i)) (zwt D i) = 1 from zwr1_1 c65] at h0
             exact h0 _ (by omega))
        · refine zk_iinc (lo' := [_, _, _, _, _, _]) hX dX2_wristCells_68 rfl (by first | exact zinc _ | exact rfl) (Nat.le_of_ble_eq_true rfl) rfl rfl ?_
          refine zk_iinc (lo' := [_, _, _, _, _, _]) hX dX2_wristCells_71 rfl (by first | exact zinc _ | exact rfl) (Nat.le_of_ble_eq_true rfl) rfl rfl ?_
          refine zk_goto (tgt := 9) hX dX2_wristCells_74 (by decide) ?_
          first
          | (rw [show zwr1 (zdkL zno (zLw D o i)) (zwt D i) = 0 from c65, Nat.add_zero] at h0
             exact h0 _ (by omega))
          | (rw [show zwr1 (zdkL zno (zLw D o i)) (zwt D i) = 1 from zwr1_1 c65] at h0
             exact h0 _ (by omega))
      have k33 : ¬ (o = -1 ∨ o = nI i) → zk0 G X mX2_wristCells 33 [.ref 26, .int o, .ref k, .int (nI (zwrL zno (zLw D o i))), .int (nI i), v] [] (zsetS w k (zdkL zno (zLw D o i))) := by
        intro q
        have e1 := eb q
        have h0 := ih (i + 1)
        rw [e1] at h0
        refine zk_iconst (v := 0) hX dX2_wristCells_33 (by decide) ?_
        refine zk_istore (lo' := [_, _, _, _, _, _]) hX dX2_wristCells_34 (Nat.le_of_ble_eq_true rfl) rfl rfl ?_
        refine zk_iload hX dX2_wristCells_36 rfl ?_
        refine zk_if_eq (tgt := 71) hX dX2_wristCells_38 (by decide) (fun c38 => ?_) (fun c38 => ?_)
        rotate_left
        · exact absurd rfl c38
        refine zk_iinc (lo' := [_, _, _, _, _, _]) hX dX2_wristCells_71 rfl (by first | exact zinc _ | exact rfl) (Nat.le_of_ble_eq_true rfl) rfl rfl ?_
        refine zk_goto (tgt := 9) hX dX2_wristCells_74 (by decide) ?_
        exact h0 _ (by omega)
      refine zk_iload hX dX2_wristCells_9 rfl ?_
      refine zk_aload_n hX dX2_wristCells_11 rfl ?_
      refine zk_getI hX dX2_wristCells_12 flX2_36 k_26 z_26 ?_
      rw [zsetS_1, hH.1.1]
      refine zk_icmp_ge (tgt := 77) hX dX2_wristCells_15 (by decide) (fun c15 => ?_) (fun c15 => ?_)
      · exact absurd c15 (nI_ge (by omega) (by omega))
      refine zk_iload_n hX dX2_wristCells_18 rfl ?_
      refine zk_iconst (v := -1) hX dX2_wristCells_19 (by decide) ?_
      refine zk_icmp_eq (tgt := 29) hX dX2_wristCells_20 (by decide) (fun c20 => ?_) (fun c20 => ?_)
      · exact k29 (by grind)
      · refine zk_iload_n hX dX2_wristCells_23 rfl ?_
        refine zk_iload hX dX2_wristCells_24 rfl ?_
        refine zk_icmp_ne (tgt := 33) hX dX2_wristCells_26 (by decide) (fun c26 => ?_) (fun c26 => ?_)
        · exact k33 (by grind)
        · exact k29 (by grind)
  refine zk_aload_n hX dX2_wristCells_0 rfl ?_
  refine zk_V0v hX dX2_wristCells_1 kcX1_clear mlX2_64 viX1_clear rfl hC.1 hC.2 (s_X1_clear hC) (Nat.le_of_ble_eq_true rfl) rfl ?_
  refine zk_iconst (v := 0) hX dX2_wristCells_4 (by decide) ?_
  refine zk_istore_n (lo' := [_, _, _, _, _, _]) hX dX2_wristCells_5 (Nat.le_of_ble_eq_true rfl) rfl rfl ?_
  refine zk_iconst (v := 0) hX dX2_wristCells_6 (by decide) ?_
  refine zk_istore (lo' := [_, _, _, _, _, _]) hX dX2_wristCells_7 (Nat.le_of_ble_eq_true rfl) rfl rfl ?_
  exact loop (dW D) 0 _ (by omega)

def zsm (g : Nat → Nat) : Nat → Nat
  | 0 => 0
  | n + 1 => zsm g n + g n
theorem zsm_c {g g' : Nat → Nat} : ∀ {n : Nat}, (∀ i, i < n → g i = g' i) → zsm g n = zsm g' n
  | 0, _ => rfl
  | n + 1, h => by
    show zsm g n + g n = zsm g' n + g' n
    rw [zsm_c (fun i hi => h i (by omega)), h n (by omega)]
theorem zsm_le {g : Nat → Nat} {b : Nat} : ∀ {n : Nat}, (∀ i, i < n → g i ≤ b) → zsm g n ≤ b * n
  | 0, _ => Nat.le_refl _
  | n + 1, h => by
    have h1 := zsm_le (g := g) (b := b) (n := n) (fun i hi => h i (by omega))
    have h2 := h n (by omega)
    show zsm g n + g n ≤ b * (n + 1)
    rw [Nat.mul_add]
    omega
def zab (x : Int32) : Nat := (if 0 ≤ x then x else 0 - x).toNatClampNeg
/-- the span of the i-th joint of a finger, its turn in the n-th of its own turns -/
abbrev zsD (D : zD) (f i : Nat) : Nat := zsp D (zoff D f + i)
def zod (D : zD) (f n i : Nat) : Int32 := nI (zdg (zsD D f) (dL D f) n i) - nI (dB D (zoff D f + i))
theorem zab_ok : ∀ d, d < 5 → ∀ b, b < 3 → d ≤ b + 2 → (zab (nI d - nI b) ≤ 2 ∧ (if 0 ≤ nI d - nI b then nI d - nI b else 0 - (nI d - nI b)) = nI (zab (nI d - nI b))) := by decide +kernel
theorem zod_ab {D : zD} (hD : zDok D) {f : Nat} (hf : f < dF D) {n i : Nat} (hi : i < dL D f) : zab (zod D f n i) ≤ 2 ∧ (if 0 ≤ zod D f n i then zod D f n i else 0 - zod D f n i) = nI (zab (zod D f n i)) := by
  have hj := zoff_in hD hf hi
  have h1 := hD.2.2.2.2.1 _ hj
  have h2 := zdg_lt (sp := zsD D f) (m := dL D f) (j := i) n (zsp_b hD hj).1 hi
  have h3 : zsD D f i = dB D (zoff D f + i) + dA D (zoff D f + i) + 1 := rfl
  exact zab_ok _ (by omega) _ (by omega) (by omega)
theorem zdec1 (x : Int32) : x + Int32.ofInt (-1) = x - 1 := (Int32.sub_eq_add_neg x 1).symm
theorem s_X2_turnFinger {G : zG} {w : zW} {D : zD} (hw : zWf w) (hH : cHd w 26 D) (hD : zDok D) {f n : Nat} (hf : f < dF D) (hn : n < 5000) :
    zCi G mX2_turnFinger [.ref 26, .int (nI f), .int (nI n), .ref 145] w (fun r w' => r = nI (zsm (fun i => zab (zod D f n i)) (dL D f)) ∧ zFr [145] [] [] w w' ∧ ∀ i, i < dL D f → w'.1 145 (zoff D f + i) = zod D f n i) := by
  have h6 := hD.1.2.2
  have hF := hD.2.2.1 f hf
  have hF6 := hD.1.2.1
  have ho := zoff_le hD (f := f + 1) (by omega)
  rw [show zoff D (f + 1) = zoff D f + dL D f from rfl] at ho
  have hHf := hH.2.2.1 f hf
  rw [hF.2.2.2] at hHf
  refine zC_of (lo := [_, _, _, _, _, _, _, _]) kcX2_turnFinger (Nat.le_of_ble_eq_true rfl) rfl (fun X hX hE => ?_)
  have loop : ∀ k w1 r L0 (v : Value), k ≤ dL D f → zFr [145] [] [] w w1 → r < 5000 → (∀ i, i < k → zdg (zsD D f) (dL D f) n i = zdg (zsD D f) k r i) → (∀ i, k ≤ i → i < dL D f → w1.1 145 (zoff D f + i) = zod D f n i) → L0 + zsm (fun i => zab (zod D f n i)) k = zsm (fun i => zab (zod D f n i)) (dL D f) →
      zk0 G X mX2_turnFinger 23 [.ref 26, .int (nI f), .int (nI n), .ref 145, .int (nI r), .int (nI L0), .int (nI (zoff D f + k) - 1), v] [] w1 := by
    intro k
    induction k with
    | zero =>
      intro w1 r L0 v _ hFr hr h1 h2 h3
      have hw1 := zFr_wf hFr hw
      have hH1 : cHd w1 26 D := cHd_o hH (fun a ha hb => hFr.2.1 a (by simp; omega) (by omega))
      have hHf1 := hH1.2.2.1 f hf
      have hlast : nI (zoff D f + 0) - 1 < nI (zoff D f) := by
        rw [Nat.add_zero, Int32.lt_iff_toInt_lt]
        rcases Nat.eq_zero_or_pos (zoff D f) with q | q
        · rw [q]; decide
        · obtain ⟨y, hy⟩ : ∃ y, zoff D f = y + 1 := ⟨zoff D f - 1, by omega⟩
          rw [hy, nI_pred, nI_toInt (by omega), nI_toInt (by omega)]
          omega
      refine zk_iload hX dX2_turnFinger_23 rfl ?_
      refine zk_aload_n hX dX2_turnFinger_25 rfl ?_
      refine zk_getR hX dX2_turnFinger_26 flX2_21 k_26 z_26 (hw1 _ _ (by decide) |>.trans r_26_6) ?_
      refine zk_iload_n hX dX2_turnFinger_29 rfl ?_
      refine zk_ialdE hX dX2_turnFinger_30 rfl k_30 z_30 (by first | assumption | omega) rfl ?_
      rw [hHf1.2.2.1, hF.2.2.2]
      refine zk_icmp_lt (tgt := 84) hX dX2_turnFinger_31 (by decide) (fun c31 => ?_) (fun c31 => ?_)
      rotate_left
      · exact absurd hlast c31
      refine zk_iload hX dX2_turnFinger_84 rfl ?_
      refine zk_iret hX hE rfl ⟨rfl, rfl⟩ dX2_turnFinger_86 ⟨_, rfl, ?_⟩
      refine ⟨?_, hFr, fun i hi => h2 i (by omega) hi⟩
      rw [← h3]
      rfl
    | succ k ih =>
      intro w1 r L0 v hk hFr hr h1 h2 h3
      have hw1 := zFr_wf hFr hw
      have hH1 : cHd w1 26 D := cHd_o hH (fun a ha hb => hFr.2.1 a (by simp; omega) (by omega))
      have hHf1 := hH1.2.2.1 f hf
      have hj := zoff_in hD hf (show k < dL D f by omega)
      have hsp := zsp_b hD hj
      have hHj := hH1.2.2.2 _ hj
      have e6 : nI (zoff D f + (k + 1)) - 1 = nI (zoff D f + k) := nI_pred _
      have ed : zdg (zsD D f) (dL D f) n k = r % zsp D (zoff D f + k) := by
        rw [h1 k (by omega)]
        show (if k = k then _ else _) = _
        rw [if_pos rfl]
      have eo : nI (r % zsp D (zoff D f + k)) - nI (dB D (zoff D f + k)) = zod D f n k := by unfold zod; rw [ed]
      have eA := zod_ab hD hf (n := n) (show k < dL D f by omega)
      rw [e6]
      refine zk_iload hX dX2_turnFinger_23 rfl ?_
      refine zk_aload_n hX dX2_turnFinger_25 rfl ?_
      refine zk_getR hX dX2_turnFinger_26 flX2_21 k_26 z_26 (hw1 _ _ (by decide) |>.trans r_26_6) ?_
      refine zk_iload_n hX dX2_turnFinger_29 rfl ?_
      refine zk_ialdE hX dX2_turnFinger_30 rfl k_30 z_30 (by first | assumption | omega) rfl ?_
      rw [hHf1.2.2.1, hF.2.2.2]
      refine zk_icmp_lt (tgt := 84) hX dX2_turnFinger_31 (by decide) (fun c31 => ?_) (fun c31 => ?_)
      · exact absurd c31 (nI_nlt (by omega) (by omega))
      refine zk_aload_n hX dX2_turnFinger_34 rfl ?_
      refine zk_iload hX dX2_turnFinger_35 rfl ?_
      refine zk_V1i hX dX2_turnFinger_37 kcX2_span mlX2_58 viX2_span rfl k_26 z_26 (s_X2_span hw1 hH1 hD hj) (Nat.le_of_ble_eq_true rfl) rfl ?_
      refine zk_istore (lo' := [_, _, _, _, _, _, _, _]) hX dX2_turnFinger_40 (Nat.le_of_ble_eq_true rfl) rfl rfl ?_
      refine zk_aload_n hX dX2_turnFinger_42 rfl ?_
      refine zk_iload hX dX2_turnFinger_43 rfl ?_
      refine zk_iload hX dX2_turnFinger_45 rfl ?_
      refine zk_iload hX dX2_turnFinger_47 rfl ?_
      refine zk_irem hX dX2_turnFinger_49 (nI_ne0 (by omega) (by omega)) ?_
      rw [nI_rem (by omega) (by omega)]
      refine zk_aload_n hX dX2_turnFinger_50 rfl ?_
      refine zk_getR hX dX2_turnFinger_51 flX2_30 k_26 z_26 (hw1 _ _ (by decide) |>.trans r_26_9) ?_
      refine zk_iload hX dX2_turnFinger_54 rfl ?_
      refine zk_ialdE hX dX2_turnFinger_56 rfl k_33 z_33 (by first | assumption | omega) rfl ?_
      rw [hHj.2.1]
      refine zk_isub hX dX2_turnFinger_57 ?_
      rw [eo]
      refine zk_iastE hX dX2_turnFinger_58 rfl k_145 z_145 (by first | assumption | omega) rfl ?_
      refine zk_iload hX dX2_turnFinger_59 rfl ?_
      refine zk_aload_n hX dX2_turnFinger_61 rfl ?_
      refine zk_iload hX dX2_turnFinger_62 rfl ?_
      refine zk_ialdE hX dX2_turnFinger_64 rfl k_145 z_145 (by first | assumption | omega) rfl ?_
      rw [zsi_1, if_pos ⟨rfl, rfl⟩]
      refine zk_mabs hX dX2_turnFinger_65 mlX2_61 ⟨rfl, rfl⟩ ?_
      rw [eA.2]
      refine zk_iadd hX dX2_turnFinger_68 ?_
      rw [nI_add]
      refine zk_istore (lo' := [_, _, _, _, _, _, _, _]) hX dX2_turnFinger_69 (Nat.le_of_ble_eq_true rfl) rfl rfl ?_
      refine zk_iload hX dX2_turnFinger_71 rfl ?_
      refine zk_iload hX dX2_turnFinger_73 rfl ?_
      refine zk_idiv hX dX2_turnFinger_75 (nI_ne0 (by omega) (by omega)) ?_
      rw [nI_div (by omega) (by omega)]
      refine zk_istore (lo' := [_, _, _, _, _, _, _, _]) hX dX2_turnFinger_76 (Nat.le_of_ble_eq_true rfl) rfl rfl ?_
      refine zk_iinc (lo' := [_, _, _, _, _, _, _, _]) hX dX2_turnFinger_78 rfl (by exact zdec1 _) (Nat.le_of_ble_eq_true rfl) rfl rfl ?_
      refine zk_goto (tgt := 23) hX dX2_turnFinger_81 (by decide) ?_
      refine ih _ _ _ _ (by omega) (zFr_t hFr (zFr_i (by decide) (by decide))) (Nat.lt_of_le_of_lt (Nat.div_le_self _ _) hr) (fun i hi => ?_) (fun i hi1 hi2 => ?_) ?_
      · rw [h1 i (by omega)]
        show (if i = k then _ else _) = _
        rw [if_neg (by omega)]
      · rw [zsi_1]
        by_cases q : i = k
        · subst q
          rw [if_pos ⟨rfl, rfl⟩]
        · rw [if_neg (by omega)]
          exact h2 i (by omega) hi2
      · rw [← h3]
        show L0 + zab (zod D f n k) + zsm (fun i => zab (zod D f n i)) k = L0 + (zsm (fun i => zab (zod D f n i)) k + zab (zod D f n k))
        omega
  refine zk_iload_n hX dX2_turnFinger_0 rfl ?_
  refine zk_istore (lo' := [_, _, _, _, _, _, _, _]) hX dX2_turnFinger_1 (Nat.le_of_ble_eq_true rfl) rfl rfl ?_
  refine zk_iconst (v := 0) hX dX2_turnFinger_3 (by decide) ?_
  refine zk_istore (lo' := [_, _, _, _, _, _, _, _]) hX dX2_turnFinger_4 (Nat.le_of_ble_eq_true rfl) rfl rfl ?_
  refine zk_aload_n hX dX2_turnFinger_6 rfl ?_
  refine zk_getR hX dX2_turnFinger_7 flX2_21 k_26 z_26 (hw _ _ (by decide) |>.trans r_26_6) ?_
  refine zk_iload_n hX dX2_turnFinger_10 rfl ?_
  refine zk_ialdE hX dX2_turnFinger_11 rfl k_30 z_30 (by first | assumption | omega) rfl ?_
  rw [hHf.2.2.1]
  refine zk_aload_n hX dX2_turnFinger_12 rfl ?_
  refine zk_getR hX dX2_turnFinger_13 flX2_24 k_26 z_26 (hw _ _ (by decide) |>.trans r_26_7) ?_
  refine zk_iload_n hX dX2_turnFinger_16 rfl ?_
  refine zk_ialdE hX dX2_turnFinger_17 rfl k_31 z_31 (by first | assumption | omega) rfl ?_
  rw [hHf.2.2.2]
  refine zk_iadd hX dX2_turnFinger_18 ?_
  rw [nI_add]
  refine zk_iconst (v := 1) hX dX2_turnFinger_19 (by decide) ?_
  refine zk_isub hX dX2_turnFinger_20 ?_
  refine zk_istore (lo' := [_, _, _, _, _, _, _, _]) hX dX2_turnFinger_21 (Nat.le_of_ble_eq_true rfl) rfl rfl ?_
  exact loop (dL D f) w n 0 _ (Nat.le_refl _) zFr_r hn (fun i hi => rfl) (fun i h1 h2 => absurd h1 (by omega)) (by omega)

theorem zside_nI (s : Nat) (t : Int32) : (nI s + t) &&& 7 = nI (zside s t) := by
  have h1 := zside_lt s t
  have h0 : ¬ ((nI s + t) &&& 7) < 0 := by
    intro q
    have h1 : ((nI s + t) &&& 7).toBitVec.toNat ≤ 7 := by
      rw [Int32.toBitVec_and, BitVec.toNat_and]
      exact Nat.and_le_right
    have h2 : ((nI s + t) &&& 7).toInt = (((nI s + t) &&& 7).toBitVec.toNat : Int) := by
      show ((nI s + t) &&& 7).toBitVec.toInt = _
      rw [BitVec.toInt_eq_toNat_of_lt (by omega)]
    rw [Int32.lt_iff_toInt_lt, h2] at q
    have : (0 : Int32).toInt = 0 := rfl
    omega
  obtain ⟨j, hj, e⟩ := nI_of h0
  unfold zside
  rw [e, nI_clamp hj]
theorem s_X2_fingerCells {G : zG} {w : zW} {D : zD} {k tk f : Nat} {S : zS} (hw : zWf w) (hH : cHd w 26 D) (hD : zDok D) (hC : zCe k) (hT : zTc tk) (hS : zHas w k S) (hf : f < dF D) :
    zEi G mX2_fingerCells [.ref 26, .int (nI f), .ref tk, .ref k] w (nI (zwrL S (zLq D (w.1 tk) f (dL D f + 1)))) (zsetS w k (zdkL S (zLq D (w.1 tk) f (dL D f + 1)))) := by
  have h6 := hD.1.2.2
  have hF := hD.2.2.1 f hf
  have hF6 := hD.1.2.1
  have ho := zoff_le hD (f := f + 1) (by omega)
  rw [show zoff D (f + 1) = zoff D f + dL D f from rfl] at ho
  have hHf := hH.2.2.1 f hf
  have hW := hH.2.1 (dO D f) hF.1
  have hW2 := hD.2.1 _ hF.1
  have hW3 := hD.1.1
  have hwS : ∀ S, zWf (zsetS w k S) := fun S => zWf_of hw rfl
  have es : ∀ i, zpos D (w.1 tk) f (i + 1) = ((zpos D (w.1 tk) f i).1 + zsX (zside (zpos D (w.1 tk) f i).2.2 (w.1 tk (dI D f + i))), (zpos D (w.1 tk) f i).2.1 + zsY (zside (zpos D (w.1 tk) f i).2.2 (w.1 tk (dI D f + i))), zside (zpos D (w.1 tk) f i).2.2 (w.1 tk (dI D f + i))) := fun i => rfl
  refine zC_of (lo := [_, _, _, _, _, _, _, _, _]) kcX2_fingerCells (Nat.le_of_ble_eq_true rfl) rfl (fun X hX hE => ?_)
  have loop : ∀ z i, i + z = dL D f → zk0 G X mX2_fingerCells 46 [.ref 26, .int (nI f), .ref tk, .ref k, .int (nI (zwrL S (zLq D (w.1 tk) f (i + 1)))), .int (zpos D (w.1 tk) f i).1, .int (zpos D (w.1 tk) f i).2.1, .int (nI (zpos D (w.1 tk) f i).2.2), .int (nI (i + 1))] [] (zsetS w k (zdkL S (zLq D (w.1 tk) f (i + 1)))) := by
    intro z
    induction z with
    | zero =>
      intro i hi
      obtain rfl : i = dL D f := by omega
      refine zk_iload hX dX2_fingerCells_46 rfl ?_
      refine zk_aload_n hX dX2_fingerCells_48 rfl ?_
      refine zk_getR hX dX2_fingerCells_49 flX2_24 k_26 z_26 ((hwS _) _ _ (by decide) |>.trans r_26_7) ?_
      refine zk_iload_n hX dX2_fingerCells_52 rfl ?_
      refine zk_ialdE hX dX2_fingerCells_53 rfl k_31 z_31 (by first | assumption | omega) rfl ?_
      rw [zsetS_1, hHf.2.2.2]
      refine zk_icmp_gt (tgt := 125) hX dX2_fingerCells_54 (by decide) (fun c54 => ?_) (fun c54 => ?_)
      rotate_left
      · exact absurd (nI_lt (by omega) (by omega)) c54
      refine zk_iload hX dX2_fingerCells_125 rfl ?_
      refine zk_iret hX hE rfl ⟨rfl, rfl⟩ dX2_fingerCells_127 ⟨_, rfl, ?_⟩
      exact ⟨rfl, rfl⟩
    | succ z ih =>
      intro i hi
      have h0 := ih (i + 1) (by omega)
      have h8 := zside_lt (zpos D (w.1 tk) f i).2.2 (w.1 tk (dI D f + i))
      have e1 : zLq D (w.1 tk) f (i + 1 + 1) = zLq D (w.1 tk) f (i + 1) ++ [zpt D (w.1 tk) f (i + 1)] := rfl
      have ep : zpt D (w.1 tk) f (i + 1) = ((zpos D (w.1 tk) f (i + 1)).1, (zpos D (w.1 tk) f (i + 1)).2.1) := rfl
      rw [e1, ep, zdkL_app, zdkL_1, zwrL_app, zwrL_1, es] at h0
      have hI2 := hF.2.2.2
      refine zk_iload hX dX2_fingerCells_46 rfl ?_
      refine zk_aload_n hX dX2_fingerCells_48 rfl ?_
      refine zk_getR hX dX2_fingerCells_49 flX2_24 k_26 z_26 ((hwS _) _ _ (by decide) |>.trans r_26_7) ?_
      refine zk_iload_n hX dX2_fingerCells_52 rfl ?_
      refine zk_ialdE hX dX2_fingerCells_53 rfl k_31 z_31 (by first | assumption | omega) rfl ?_
      rw [zsetS_1, hHf.2.2.2]
      refine zk_icmp_gt (tgt := 125) hX dX2_fingerCells_54 (by decide) (fun c54 => ?_) (fun c54 => ?_)
      · exact absurd c54 (nI_nlt (by omega) (by omega))
      refine zk_iload hX dX2_fingerCells_57 rfl ?_
      refine zk_if_le (tgt := 83) hX dX2_fingerCells_59 (by decide) (fun c59 => ?_) (fun c59 => ?_)
      · exact absurd c59 (nI_nle (by omega) (by omega))
      refine zk_iload hX dX2_fingerCells_62 rfl ?_
      refine zk_aload_n hX dX2_fingerCells_64 rfl ?_
      refine zk_aload_n hX dX2_fingerCells_65 rfl ?_
      refine zk_getR hX dX2_fingerCells_66 flX2_21 k_26 z_26 ((hwS _) _ _ (by decide) |>.trans r_26_6) ?_
      refine zk_iload_n hX dX2_fingerCells_69 rfl ?_
      refine zk_ialdE hX dX2_fingerCells_70 rfl k_30 z_30 (by first | assumption | omega) rfl ?_
      rw [zsetS_1, hHf.2.2.1]
      refine zk_iload hX dX2_fingerCells_71 rfl ?_
      refine zk_iadd hX dX2_fingerCells_73 ?_
      rw [nI_add]
      refine zk_iconst (v := 1) hX dX2_fingerCells_74 (by decide) ?_
      refine zk_isub hX dX2_fingerCells_75 ?_
      rw [show nI (dI D f + (i + 1)) - 1 = nI (dI D f + i) from nI_pred _]
      refine zk_ialdE hX dX2_fingerCells_76 rfl hT.1 hT.2 (by first | assumption | omega) rfl ?_
      rw [zsetS_1]
      refine zk_iadd hX dX2_fingerCells_77 ?_
      refine zk_bipush (v := 7) hX dX2_fingerCells_78 (by decide) ?_
      refine zk_iand hX dX2_fingerCells_80 ?_
      rw [zside_nI]
      refine zk_istore (lo' := [_, _, _, _, _, _, _, _, _]) hX dX2_fingerCells_81 (Nat.le_of_ble_eq_true rfl) rfl rfl ?_
      refine zk_iload hX dX2_fingerCells_83 rfl ?_
      refine zk_getsX hX dX2_fingerCells_85 slX2_73 ?_
      refine zk_iload hX dX2_fingerCells_88 rfl ?_
      refine zk_tldX hX dX2_fingerCells_90 (by exact vp_in_nI h8 (by decide)) ?_
      rw [nI_clamp (by omega)]
      refine zk_iadd hX dX2_fingerCells_91 ?_
      refine zk_istore (lo' := [_, _, _, _, _, _, _, _, _]) hX dX2_fingerCells_92 (Nat.le_of_ble_eq_true rfl) rfl rfl ?_
      refine zk_iload hX dX2_fingerCells_94 rfl ?_
      refine zk_getsY hX dX2_fingerCells_96 slX2_76 ?_
      refine zk_iload hX dX2_fingerCells_99 rfl ?_
      refine zk_tldY hX dX2_fingerCells_101 (by exact vp_in_nI h8 (by decide)) ?_
      rw [nI_clamp (by omega)]
      refine zk_iadd hX dX2_fingerCells_102 ?_
      refine zk_istore (lo' := [_, _, _, _, _, _, _, _, _]) hX dX2_fingerCells_103 (Nat.le_of_ble_eq_true rfl) rfl rfl ?_
      refine zk_aload_n hX dX2_fingerCells_105 rfl ?_
      refine zk_iload hX dX2_fingerCells_106 rfl ?_
      refine zk_iload hX dX2_fingerCells_108 rfl ?_
      refine zk_V2i hX dX2_fingerCells_110 kcX1_addNew mlX2_69 viX1_addNew rfl hC.1 hC.2 (s_X1_addP hC zsetS_has _ _) (Nat.le_of_ble_eq_true rfl) rfl ?_
      rw [zsetS_ss]
      refine zk_if_neB (tgt := 119) hX dX2_fingerCells_113 (by decide) (fun c113 => ?_) (fun c113 => ?_)
      · refine zk_iinc (lo' := [_, _, _, _, _, _, _, _, _]) hX dX2_fingerCells_119 rfl (by first | exact zinc _ | exact rfl) (Nat.le_of_ble_eq_true rfl) rfl rfl ?_
        refine zk_goto (tgt := 46) hX dX2_fingerCells_122 (by decide) ?_
        first
        | (rw [c113, Nat.add_zero] at h0
           exact h0)
        | (rw [zwr1_1 c113] at h0
           exact h0)
      · refine zk_iinc (lo' := [_, _, _, _, _, _, _, _, _]) hX dX2_fingerCells_116 rfl (by first | exact zinc _ | exact rfl) (Nat.le_of_ble_eq_true rfl) rfl rfl ?_
        refine zk_iinc (lo' := [_, _, _, _, _, _, _, _, _]) hX dX2_fingerCells_119 rfl (by first | exact zinc _ | exact rfl) (Nat.le_of_ble_eq_true rfl) rfl rfl ?_
        refine zk_goto (tgt := 46) hX dX2_fingerCells_122 (by decide) ?_
        first
        | (rw [c113, Nat.add_zero] at h0
           exact h0)
        | (rw [zwr1_1 c113] at h0
           exact h0)
  have h0 := loop (dL D f) 0 (by omega)
  have e1 : zLq D (w.1 tk) f (0 + 1) = [zpt D (w.1 tk) f 0] := rfl
  have ep : zpt D (w.1 tk) f 0 = ((zpos D (w.1 tk) f 0).1, (zpos D (w.1 tk) f 0).2.1) := rfl
  rw [e1, ep, zdkL_1, zwrL_1] at h0
  have first0 : zk0 G X mX2_fingerCells 46 [.ref 26, .int (nI f), .ref tk, .ref k, .int 0, .int (nI (dw D (dO D f) % 12)), .int (nI (dw D (dO D f) / 12)), .int (nI (dS D f)), .int 0] [] w := by
    refine zk_iload hX dX2_fingerCells_46 rfl ?_
    refine zk_aload_n hX dX2_fingerCells_48 rfl ?_
    refine zk_getR hX dX2_fingerCells_49 flX2_24 k_26 z_26 (hw _ _ (by decide) |>.trans r_26_7) ?_
    refine zk_iload_n hX dX2_fingerCells_52 rfl ?_
    refine zk_ialdE hX dX2_fingerCells_53 rfl k_31 z_31 (by first | assumption | omega) rfl ?_
    rw [hHf.2.2.2]
    refine zk_icmp_gt (tgt := 125) hX dX2_fingerCells_54 (by decide) (fun c54 => ?_) (fun c54 => ?_)
    · exact absurd c54 (nI_pos (by omega))
    refine zk_iload hX dX2_fingerCells_57 rfl ?_
    refine zk_if_le (tgt := 83) hX dX2_fingerCells_59 (by decide) (fun c59 => ?_) (fun c59 => ?_)
    rotate_left
    · exact absurd (by decide) c59
    refine zk_iload hX dX2_fingerCells_83 rfl ?_
    refine zk_getsX hX dX2_fingerCells_85 slX2_73 ?_
    refine zk_iload hX dX2_fingerCells_88 rfl ?_
    refine zk_tldX hX dX2_fingerCells_90 (by exact vp_in_nI hF.2.1 (by decide)) ?_
    rw [nI_clamp (by omega)]
    refine zk_iadd hX dX2_fingerCells_91 ?_
    refine zk_istore (lo' := [_, _, _, _, _, _, _, _, _]) hX dX2_fingerCells_92 (Nat.le_of_ble_eq_true rfl) rfl rfl ?_
    refine zk_iload hX dX2_fingerCells_94 rfl ?_
    refine zk_getsY hX dX2_fingerCells_96 slX2_76 ?_
    refine zk_iload hX dX2_fingerCells_99 rfl ?_
    refine zk_tldY hX dX2_fingerCells_101 (by exact vp_in_nI hF.2.1 (by decide)) ?_
    rw [nI_clamp (by omega)]
    refine zk_iadd hX dX2_fingerCells_102 ?_
    refine zk_istore (lo' := [_, _, _, _, _, _, _, _, _]) hX dX2_fingerCells_103 (Nat.le_of_ble_eq_true rfl) rfl rfl ?_
    refine zk_aload_n hX dX2_fingerCells_105 rfl ?_
    refine zk_iload hX dX2_fingerCells_106 rfl ?_
    refine zk_iload hX dX2_fingerCells_108 rfl ?_
    refine zk_V2i hX dX2_fingerCells_110 kcX1_addNew mlX2_69 viX1_addNew rfl hC.1 hC.2 (s_X1_addP hC hS _ _) (Nat.le_of_ble_eq_true rfl) rfl ?_
    refine zk_if_neB (tgt := 119) hX dX2_fingerCells_113 (by decide) (fun c113 => ?_) (fun c113 => ?_)
    · refine zk_iinc (lo' := [_, _, _, _, _, _, _, _, _]) hX dX2_fingerCells_119 rfl (by first | exact zinc _ | exact rfl) (Nat.le_of_ble_eq_true rfl) rfl rfl ?_
      refine zk_goto (tgt := 46) hX dX2_fingerCells_122 (by decide) ?_
      first
      | (rw [show zwr1 S ((zpos D (w.1 tk) f 0).1, (zpos D (w.1 tk) f 0).2.1) = 0 from c113] at h0
         exact h0)
      | (rw [show zwr1 S ((zpos D (w.1 tk) f 0).1, (zpos D (w.1 tk) f 0).2.1) = 1 from zwr1_1 c113] at h0
         exact h0)
    · refine zk_iinc (lo' := [_, _, _, _, _, _, _, _, _]) hX dX2_fingerCells_116 rfl (by first | exact zinc _ | exact rfl) (Nat.le_of_ble_eq_true rfl) rfl rfl ?_
      refine zk_iinc (lo' := [_, _, _, _, _, _, _, _, _]) hX dX2_fingerCells_119 rfl (by first | exact zinc _ | exact rfl) (Nat.le_of_ble_eq_true rfl) rfl rfl ?_
      refine zk_goto (tgt := 46) hX dX2_fingerCells_122 (by decide) ?_
      first
      | (rw [show zwr1 S ((zpos D (w.1 tk) f 0).1, (zpos D (w.1 tk) f 0).2.1) = 0 from c113] at h0
         exact h0)
      | (rw [show zwr1 S ((zpos D (w.1 tk) f 0).1, (zpos D (w.1 tk) f 0).2.1) = 1 from zwr1_1 c113] at h0
         exact h0)
  refine zk_iconst (v := 0) hX dX2_fingerCells_0 (by decide) ?_
  refine zk_istore (lo' := [_, _, _, _, _, _, _, _, _]) hX dX2_fingerCells_1 (Nat.le_of_ble_eq_true rfl) rfl rfl ?_
  refine zk_aload_n hX dX2_fingerCells_3 rfl ?_
  refine zk_getR hX dX2_fingerCells_4 flX2_9 k_26 z_26 (hw _ _ (by decide) |>.trans r_26_3) ?_
  refine zk_aload_n hX dX2_fingerCells_7 rfl ?_
  refine zk_getR hX dX2_fingerCells_8 flX2_15 k_26 z_26 (hw _ _ (by decide) |>.trans r_26_4) ?_
  refine zk_iload_n hX dX2_fingerCells_11 rfl ?_
  refine zk_ialdE hX dX2_fingerCells_12 rfl k_28 z_28 (by first | assumption | omega) rfl ?_
  rw [hHf.1]
  refine zk_ialdE hX dX2_fingerCells_13 rfl k_27 z_27 (by first | assumption | omega) rfl ?_
  rw [hW]
  refine zk_bipush (v := 12) hX dX2_fingerCells_14 (by decide) ?_
  refine zk_irem hX dX2_fingerCells_16 (by decide) ?_
  rw [show (12 : Int32) = nI 12 from rfl, nI_rem (by omega) (by decide)]
  refine zk_istore (lo' := [_, _, _, _, _, _, _, _, _]) hX dX2_fingerCells_17 (Nat.le_of_ble_eq_true rfl) rfl rfl ?_
  refine zk_aload_n hX dX2_fingerCells_19 rfl ?_
  refine zk_getR hX dX2_fingerCells_20 flX2_9 k_26 z_26 (hw _ _ (by decide) |>.trans r_26_3) ?_
  refine zk_aload_n hX dX2_fingerCells_23 rfl ?_
  refine zk_getR hX dX2_fingerCells_24 flX2_15 k_26 z_26 (hw _ _ (by decide) |>.trans r_26_4) ?_
  refine zk_iload_n hX dX2_fingerCells_27 rfl ?_
  refine zk_ialdE hX dX2_fingerCells_28 rfl k_28 z_28 (by first | assumption | omega) rfl ?_
  rw [hHf.1]
  refine zk_ialdE hX dX2_fingerCells_29 rfl k_27 z_27 (by first | assumption | omega) rfl ?_
  rw [hW]
  refine zk_bipush (v := 12) hX dX2_fingerCells_30 (by decide) ?_
  refine zk_idiv hX dX2_fingerCells_32 (by decide) ?_
  rw [show (12 : Int32) = nI 12 from rfl, nI_div (by omega) (by decide)]
  refine zk_istore (lo' := [_, _, _, _, _, _, _, _, _]) hX dX2_fingerCells_33 (Nat.le_of_ble_eq_true rfl) rfl rfl ?_
  refine zk_aload_n hX dX2_fingerCells_35 rfl ?_
  refine zk_getR hX dX2_fingerCells_36 flX2_18 k_26 z_26 (hw _ _ (by decide) |>.trans r_26_5) ?_
  refine zk_iload_n hX dX2_fingerCells_39 rfl ?_
  refine zk_ialdE hX dX2_fingerCells_40 rfl k_29 z_29 (by first | assumption | omega) rfl ?_
  rw [hHf.2.1]
  refine zk_istore (lo' := [_, _, _, _, _, _, _, _, _]) hX dX2_fingerCells_41 (Nat.le_of_ble_eq_true rfl) rfl rfl ?_
  refine zk_iconst (v := 0) hX dX2_fingerCells_43 (by decide) ?_
  refine zk_istore (lo' := [_, _, _, _, _, _, _, _, _]) hX dX2_fingerCells_44 (Nat.le_of_ble_eq_true rfl) rfl rfl ?_
  exact first0
theorem zac_m1 {D : zD} {f : Nat} : zac D (-1) f = true := by unfold zac; simp
theorem s_X2_allCells {G : zG} {w : zW} {D : zD} {k tk : Nat} (hw : zWf w) (hH : cHd w 26 D) (hD : zDok D) (hC : zCe k) (hT : zTc tk) :
    zEi G mX2_allCells [.ref 26, .ref tk, .ref k] w (nI (zwrL zno (zP D (w.1 tk) (-1)))) (zsetS w k (zdkL zno (zP D (w.1 tk) (-1)))) := by
  have hF6 := hD.1.2.1
  have hwS : ∀ S, zWf (zsetS w k S) := fun S => zWf_of hw rfl
  refine zC_of (lo := [_, _, _, _, _]) kcX2_allCells (Nat.le_of_ble_eq_true rfl) rfl (fun X hX hE => ?_)
  have loop : ∀ z f, f + z = dF D → zk0 G X mX2_allCells 10 [.ref 26, .ref tk, .ref k, .int (nI (zwrL zno (zLf D (w.1 tk) (-1) f))), .int (nI f)] [] (zsetS w k (zdkL zno (zLf D (w.1 tk) (-1) f))) := by
    intro z
    induction z with
    | zero =>
      intro f hf
      obtain rfl : f = dF D := by omega
      refine zk_iload hX dX2_allCells_10 rfl ?_
      refine zk_aload_n hX dX2_allCells_12 rfl ?_
      refine zk_getI hX dX2_allCells_13 flX2_40 k_26 z_26 ?_
      rw [zsetS_1, hH.1.2.1]
      refine zk_icmp_ge (tgt := 36) hX dX2_allCells_16 (by decide) (fun c16 => ?_) (fun c16 => ?_)
      rotate_left
      · exact absurd (nI_le (Nat.le_refl _) (by omega)) c16
      refine zk_iload_n hX dX2_allCells_36 rfl ?_
      refine zk_iret hX hE rfl ⟨rfl, rfl⟩ dX2_allCells_37 ⟨_, rfl, ?_⟩
      exact ⟨rfl, rfl⟩
    | succ z ih =>
      intro f hf
      have h0 := ih (f + 1) (by omega)
      have e1 : zLf D (w.1 tk) (-1) (f + 1) = zLf D (w.1 tk) (-1) f ++ zLq D (w.1 tk) f (dL D f + 1) := by
        show _ ++ (if _ then _ else _) = _
        rw [if_pos zac_m1]
      rw [e1, zdkL_app, zwrL_app, ← nI_add] at h0
      refine zk_iload hX dX2_allCells_10 rfl ?_
      refine zk_aload_n hX dX2_allCells_12 rfl ?_
      refine zk_getI hX dX2_allCells_13 flX2_40 k_26 z_26 ?_
      rw [zsetS_1, hH.1.2.1]
      refine zk_icmp_ge (tgt := 36) hX dX2_allCells_16 (by decide) (fun c16 => ?_) (fun c16 => ?_)
      · exact absurd c16 (nI_ge (by omega) (by omega))
      refine zk_iload_n hX dX2_allCells_19 rfl ?_
      refine zk_aload_n hX dX2_allCells_20 rfl ?_
      refine zk_iload hX dX2_allCells_21 rfl ?_
      refine zk_aload_n hX dX2_allCells_23 rfl ?_
      refine zk_aload_n hX dX2_allCells_24 rfl ?_
      refine zk_V3i hX dX2_allCells_25 kcX2_fingerCells mlX2_83 viX2_fingerCells rfl k_26 z_26 (s_X2_fingerCells (hwS _) (cHd_o hH (fun _ _ _ => rfl)) hD hC hT zsetS_has (by omega)) (Nat.le_of_ble_eq_true rfl) rfl ?_
      rw [zsetS_1, zsetS_ss]
      refine zk_iadd hX dX2_allCells_28 ?_
      refine zk_istore_n (lo' := [_, _, _, _, _]) hX dX2_allCells_29 (Nat.le_of_ble_eq_true rfl) rfl rfl ?_
      refine zk_iinc (lo' := [_, _, _, _, _]) hX dX2_allCells_30 rfl (by first | exact zinc _ | exact rfl) (Nat.le_of_ble_eq_true rfl) rfl rfl ?_
      refine zk_goto (tgt := 10) hX dX2_allCells_33 (by decide) ?_
      exact h0
  refine zk_aload_n hX dX2_allCells_0 rfl ?_
  refine zk_iconst (v := -1) hX dX2_allCells_1 (by decide) ?_
  refine zk_aload_n hX dX2_allCells_2 rfl ?_
  refine zk_V2i hX dX2_allCells_3 kcX2_wristCells mlX2_79 viX2_wristCells rfl k_26 z_26 (s_X2_wristCells hw hH hD hC _) (Nat.le_of_ble_eq_true rfl) rfl ?_
  refine zk_istore_n (lo' := [_, _, _, _, _]) hX dX2_allCells_6 (Nat.le_of_ble_eq_true rfl) rfl rfl ?_
  refine zk_iconst (v := 0) hX dX2_allCells_7 (by decide) ?_
  refine zk_istore (lo' := [_, _, _, _, _]) hX dX2_allCells_8 (Nat.le_of_ble_eq_true rfl) rfl rfl ?_
  exact loop (dF D) 0 (by omega)

