theorem zpr_5 {sp : Nat → Nat} : ∀ {m : Nat}, (∀ j, j < m → sp j ≤ 5) → zpr sp m ≤ 5 ^ m
  | 0, _ => Nat.le_refl _
  | m + 1, h => by
    show zpr sp m * sp m ≤ 5 ^ m * 5
    exact Nat.mul_le_mul (zpr_5 (fun j hj => h j (by omega))) (h m (Nat.lt_succ_self m))
theorem nT_le {D : zD} (hD : zDok D) (h3 : dJ D ≤ 3) : nT D ≤ 125 := by
  refine Nat.le_trans (zpr_5 (fun j hj => (zsp_b hD hj).2)) ?_
  exact Nat.pow_le_pow_right (by decide) h3
theorem nT_pos {D : zD} (hD : zDok D) : 0 < nT D := zpr_pos (fun j hj => (zsp_b hD hj).1)
/-- an object whose hands were told, before its beast -/
def Oc (w : zW) (D : zD) (T : Nat) : Prop := zWf w ∧ (zDok D ∧ zpr (zsp D) (dJ D) ≤ 4096) ∧ cHd w 26 D ∧ cRe w D ∧ zLm w 44 1 3 3 ∧ (T ≤ 99 ∧ w.1 0 8 = nI T) ∧ w.1 0 10 = nI 0
theorem zv_wf : zWf zv81 := by
  intro k j hk
  by_cases h : (20 ≤ j ∧ k ≠ 166) ∨ 60 ≤ j
  · rw [zvl81 k j h]
    symm
    by_cases h2 : k < 166
    · exact (by decide +kernel : ∀ k, k < 166 → (zrT.getD k []).length ≤ 20) k h2 |> fun q => by
        unfold zref
        rw [List.getD_eq_getElem?_getD, List.getElem?_eq_none (by omega)]
        rfl
    · unfold zref
      rw [List.getD_eq_getElem?_getD (l := zrT), List.getElem?_eq_none (show zrT.length ≤ k from Nat.le_trans (by decide +kernel : zrT.length ≤ 166) (by omega))]
      rfl
  · by_cases h2 : k < 166
    · have hj : j < 20 := by omega
      by_cases h4 : k < 100
      · exact (by decide +kernel : ∀ k, k < 100 → ∀ j, j < 20 → k ≠ 25 → zv81.2.2 k j = zref k j) k h4 j hj hk
      · have key : ∀ q, q < 66 → ∀ j, j < 20 → zv81.2.2 (100 + q) j = zref (100 + q) j := by decide +kernel
        have := key (k - 100) (by omega) j hj
        rwa [show 100 + (k - 100) = k by omega] at this
    · rw [(zvn81 k (by omega)).2.2 j]
      symm
      unfold zref
      rw [List.getD_eq_getElem?_getD (l := zrT), List.getElem?_eq_none (show zrT.length ≤ k from Nat.le_trans (by decide +kernel : zrT.length ≤ 166) (by omega))]
      rfl
theorem zv_114 : zv81.1 114 2 = 0 := by decide +kernel
theorem zv_Lm : zLm zv81 44 1 3 3 := ⟨by decide +kernel, by decide +kernel, by decide +kernel⟩
theorem zv_8 : zv81.1 0 8 = nI 99 := by decide +kernel
theorem hO_c {D9 : zD} {w : zW} (hJ : dJ D9 ≤ 3) (h : hO D9 zv81 w) : ∃ E, eqD E D9 ∧ Oc w E 99 := by
  obtain ⟨h1, ⟨E, e1, e2, e3, e4⟩, h3, ⟨h4, h5⟩, h6, h7⟩ := h
  refine ⟨E, e1, h1, ⟨e2, ?_⟩, e3, e4, ?_, ⟨by decide, ?_⟩, h4⟩
  · have := nT_le e2 (by rw [e1.1.2.2]; exact hJ)
    show nT E ≤ 4096
    omega
  · unfold zLm
    rw [h6 44 (by decide) (by decide) (by decide)]
    exact zv_Lm
  · rw [h5 8 (by decide)]
    exact zv_8
theorem Oc_f {w w' : zW} {D : zD} {T : Nat} (h : Oc w D T) (hr : w'.2.2 = w.2.2) (hi : ∀ a, a ∈ KI → a ≠ 96 → w'.1 a = w.1 a) (hl : ∀ a, a ∈ KL → a ≠ 97 → a ≠ 98 → w'.2.1 a = w.2.1 a) : Oc w' D T := by
  obtain ⟨h1, h2, h3, h4, h5, h6, h7⟩ := h
  refine ⟨zWf_of h1 hr, h2, cHd_o h3 (fun a q1 q2 => hi a (by simp [KI]; omega) (by omega)), ?_, ?_, ⟨h6.1, ?_⟩, ?_⟩
  · unfold cRe cStep cOwn cOwn1 cRow
    rw [hi 131 (by decide) (by decide), hi 132 (by decide) (by decide), hi 133 (by decide) (by decide), hi 134 (by decide) (by decide), hi 139 (by decide) (by decide), hi 140 (by decide) (by decide), hl 135 (by decide) (by decide) (by decide), hl 136 (by decide) (by decide) (by decide), hl 141 (by decide) (by decide) (by decide), hl 142 (by decide) (by decide) (by decide)]
    exact h4
  · unfold zLm
    rw [hi 44 (by decide) (by decide)]
    exact h5
  · rw [hi 0 (by decide) (by decide)]
    exact h6.2
  · rw [hi 0 (by decide) (by decide)]
    exact h7
theorem Oc_ly {w w' : zW} {D : zD} {T r : Nat} (h : Oc w D T) (hr : r < 6) (hF : lyF r w w') : Oc w' D T :=
  Oc_f h (by rw [hF.2.2]) (fun a ha _ => hF.1 a (fun q => by
    rw [q] at ha
    revert ha
    exact (by decide +kernel : ∀ r, r < 6 → 4 + 2 * r ∈ KI → False) r hr) (fun q => by
    rw [q] at ha
    revert ha
    exact (by decide +kernel : ∀ r, r < 6 → 5 + 2 * r ∈ KI → False) r hr) (fun q => by
    rw [q] at ha
    revert ha
    decide)) (fun a _ _ _ => by rw [hF.2.2])
section OB
variable {G : zG} {w : zW} {D : zD} {T : Nat}
/-- the beast is told of rows 0 and 1 -/
theorem o_beast0 {f g : Nat → Nat} (h : Oc w D T) (h0 : w.1 4 0 = nI 10) (h1 : w.1 6 0 = nI 10) (hf : ∀ y, y < 10 → f y < 4096 ∧ w.1 5 y = nI (f y)) (hg : ∀ y, y < 10 → g y < 4096 ∧ w.1 7 y = nI (g y)) : zCi G mX11_beast [.ref 0, .int (nI 0), .int (nI 0), .int (nI 1), .int (nI 0)] w (fun r w' => r = nI (zcard (zofL f)) ∧ Ob w' D (zofL f) (zofL g) T ∧ w'.1 0 10 = nI 0) := by
  have hl : ∀ (F : Nat → Nat) (k : Nat), (∀ y, y < 10 → F y < 4096 ∧ w.1 k y = nI (F y)) → zLok (w.1 k) := fun F k hF i hi => by
    obtain ⟨a, b⟩ := hF i hi
    rw [b]
    exact ⟨nI_pos' (by omega), nI_le (b := 4095) (by omega) (by decide)⟩
  have hsh : c_shf w 0 1 = 0 := by
    unfold c_shf
    have a0 : w.1 (4 + 2 * 0) 0 = nI 10 := h0
    have a1 : w.1 (4 + 2 * 1) 0 = nI 10 := h1
    rw [a0, a1, if_neg (fun q => q ⟨by decide, by decide⟩), if_neg (fun q => q ⟨by decide, by decide⟩), if_pos ⟨hl f 5 hf, hl g 7 hg⟩]
  have hs := s_X11_beast (G := G) (w := w) (k := 0) (r := 0) (t := 1) (m := 0) (f := f) (g := g) h.1 (by decide) (by decide) (by decide) (by decide) hsh h0 h1 (fun y hy => (hf y hy).2) (fun y hy => (hg y hy).2)
  have hF : zFr [96] [97, 98] [] w (zsi (zsi (zsetS (zsetS w (97 + 3 * 0) (zofL f)) (98 + 3 * 0) (zofL g)) (96 + 3 * 0) 2 0) (96 + 3 * 0) 3 1) := zFr_t (zFr_t (zFr_t (zFr_t (zFr_t (zFr_l (by decide)) (zFr_l (by decide))) (zFr_l (by decide))) (zFr_l (by decide))) (zFr_i (by decide) (by decide))) (zFr_i (by decide) (by decide))
  have hO := Oc_f h hF.1 (fun a ha hne => hF.2.1 a (by simp; exact hne) (fun q => by rw [q] at ha; revert ha; decide)) (fun a _ h1 h2 => hF.2.2.1 a (by simp; exact ⟨h1, h2⟩))
  obtain ⟨g1, g2, g3, g4, g5, g6, g7⟩ := hO
  refine zEi_c hs ⟨rfl, ⟨g1, g2, g3, g4, g5, g6, ?_, ?_, ?_⟩, g7⟩
  · rw [zsi_1, if_pos ⟨rfl, rfl⟩]
    decide
  · exact zHas_o (w := zsetS (zsetS w 97 (zofL f)) 98 (zofL g)) (zHas_oth zHas_set (by decide)) rfl
  · exact zHas_o (w := zsetS (zsetS w 97 (zofL f)) 98 (zofL g)) zHas_set rfl
end OB
/-- what stands of both -/
def LI (Dd : Bool → zD) (Mm Yy : Bool → zS) (T n : Nat) (cs : Bool → Nat → Nat) (Wd : Bool → zW) : Prop := ∀ b, Ob (Wd b) (Dd b) (Mm b) (Yy b) T ∧ Ps (Wd b) (Dd b) T n (cs b)
/-- the two agree -/
def LA (Dd : Bool → zD) (Mm Yy : Bool → zS) : Prop := zMir (Dd false) (Dd true) ∧ (∀ c, c < 120 → Mm true c = gS (Mm false) c) ∧ (∀ c, c < 120 → Yy true c = gS (Yy false) c) ∧ dJ (Dd false) ≤ 3
theorem LI_c {Dd : Bool → zD} {Mm Yy : Bool → zS} {T n : Nat} {cs : Bool → Nat → Nat} {Wd Wd1 : Bool → zW} {b : Bool} (h : LI Dd Mm Yy T n cs Wd) (z : zot Wd Wd1 b) (s : Sc (Wd b) (Wd1 b)) : LI Dd Mm Yy T n cs Wd1 := fun c => by
  by_cases e : c = b
  · subst e
    exact ⟨Sc_o (h c).1 s, Ps_c (h c).2 s⟩
  · rw [z c e]
    exact h c
abbrev loA : List Value := [.float 0, .ref 0, .ref 166, .ref 332, .ref 333, .ref 334, .ref 335, .ref 336, .ref 337, .ref 338, .ref 339]
theorem zand12 (m : Nat) : nI m &&& 4095 = nI (m % 4096) := by
  rw [show (4095 : Int32) = nI 4095 from rfl, nI_and, show 4095 = 2 ^ 12 - 1 from rfl, Nat.and_two_pow_sub_one_eq_mod]
section LAW
variable {G : zG} {X : zX} {sl : Nat}
/-- the two beasts' rows are drawn, laid, told -/
theorem lw_beast {Dd : Bool → zD} (hX : zH G X mL_law) (hsl : Nat.ble sl 7302250 = true) (hM : zMir (Dd false) (Dd true)) (hJ : dJ (Dd false) ≤ 3) (K : ∀ (a1 : zA3) (Wd : Bool → zW) (Mm Yy : Bool → zS) (v11 : Value), aH (a1 332) (Dd false) → LA Dd Mm Yy → LI Dd Mm Yy 99 0 (fun _ _ => 0) Wd → zk G X mL_law 340 340 sl 422 (loA ++ [v11, .null, .null, .null, .null, .null, .null, .null, .null]) [] (zcm Wd a1)) :
    ∀ (a3 : zA3) (Wd : Bool → zW), aH (a3 332) (Dd false) → (∀ b, Oc (Wd b) (Dd b) 99) → zk G X mL_law 340 340 sl 265 (loA ++ [.null, .null, .null, .null, .null, .null, .null, .null, .null]) [] (zcm Wd a3) := by
  have hn : zLn 340 := Or.inr rfl
  have hn4 : (340 : Nat) = 340 := rfl
  have hu := zLn_u hn
  have hn2 := zLn_2 hn
  intro a3 Wd hA hO
  have l2 : ∀ (a1 : zA3) (f g : Nat → Nat), a1 332 = a3 332 → (∀ y, y < 10 → (f y < 4096 ∧ g y < 4096) ∧ a1 336 y = nI (f y) ∧ a1 337 y = nI (g y) ∧ a1 338 y = nI (zgl (f y)) ∧ a1 339 y = nI (zgl (g y))) → ∀ v11, zk G X mL_law 340 340 sl 353 (loA ++ [v11, .null, .null, .null, .null, .null, .null, .null, .null]) [] (zcm Wd a1) := by
    intro a1 f g h1 h2 v11
    have hzl : ∀ s, zgl s < 4096 := fun s => zbits_lt _ 12
    have ec : nI (zcard (zofL f)) = nI (zcard (zofL (fun y => zgl (f y)))) := by
      refine congrArg nI ?_
      rw [← zcard_g (zofL f)]
      exact (zcard_c (zofL_g (fun _ _ => rfl))).symm
    refine zk_aload_n hX dL_law_353 rfl ?_
    refine zk_iconst (v := 0) hX dL_law_354 (by decide) ?_
    refine zk_aload hX dL_law_355 rfl ?_
    refine zk_bipush (v := 10) hX dL_law_357 (by decide) ?_
    refine zl_callS (M' := mL_lay) (As := [_, _, _, _]) hX dL_law_359 kcL_lay mlL_74 smL_lay rfl (s_L_lay (b := false) (r := 0) (m := 10) (v := fun y => nI (f y)) hn (ar_336 hn4) (by decide) (by decide) (by decide) (hO false).1 (fun y hy => (h2 y hy).2.1)) rfl rfl (Nat.le_of_ble_eq_true rfl) rfl ⟨Nat.le_of_ble_eq_true rfl, Nat.le_of_ble_eq_true hsl⟩ (fun x W1 a2 q => ?_)
    obtain ⟨rfl, rfl, z1, p1, p2, p3⟩ := q
    have hO1 := Oc_ly (hO false) (by decide) p1
    refine zk_if_eq (tgt := 420) hX dL_law_362 (by decide) (fun c362 => ?_) (fun c362 => ?_)
    · exact absurd c362 (by decide)
    refine zk_aload_n hX dL_law_365 rfl ?_
    refine zk_iconst (v := 1) hX dL_law_366 (by decide) ?_
    refine zk_aload hX dL_law_367 rfl ?_
    refine zk_bipush (v := 10) hX dL_law_369 (by decide) ?_
    refine zl_callS (M' := mL_lay) (As := [_, _, _, _]) hX dL_law_371 kcL_lay mlL_74 smL_lay rfl (s_L_lay (b := false) (r := 1) (m := 10) (v := fun y => nI (g y)) hn (ar_337 hn4) (by decide) (by decide) (by decide) hO1.1 (fun y hy => (h2 y hy).2.2.1)) rfl rfl (Nat.le_of_ble_eq_true rfl) rfl ⟨Nat.le_of_ble_eq_true rfl, Nat.le_of_ble_eq_true hsl⟩ (fun x W2 a2 q => ?_)
    obtain ⟨rfl, rfl, z2, q1, q2, q3⟩ := q
    have hO2 := Oc_ly hO1 (by decide) q1
    have e2 : W2 true = Wd true := (z2 true (by decide)).trans (z1 true (by decide))
    refine zk_if_eq (tgt := 420) hX dL_law_374 (by decide) (fun c374 => ?_) (fun c374 => ?_)
    · exact absurd c374 (by decide)
    refine zk_aload_n hX dL_law_377 rfl ?_
    refine zk_iconst (v := 0) hX dL_law_378 (by decide) ?_
    refine zk_aload hX dL_law_379 rfl ?_
    refine zk_bipush (v := 10) hX dL_law_381 (by decide) ?_
    refine zl_callS (M' := mL_lay) (As := [_, _, _, _]) hX dL_law_383 kcL_lay mlL_74 smL_lay rfl (s_L_lay (b := true) (r := 0) (m := 10) (v := fun y => nI (zgl (f y))) hn (ar_338 hn4) (by decide) (by decide) (by decide) (show zWf (W2 true) from by rw [e2]; exact (hO true).1) (fun y hy => (h2 y hy).2.2.2.1)) rfl rfl (Nat.le_of_ble_eq_true rfl) rfl ⟨Nat.le_of_ble_eq_true rfl, Nat.le_of_ble_eq_true hsl⟩ (fun x W3 a2 q => ?_)
    obtain ⟨rfl, rfl, z3, r1, r2, r3⟩ := q
    have hO3 := Oc_ly (show Oc (W2 true) (Dd true) 99 from by rw [e2]; exact hO true) (by decide) r1
    refine zk_if_eq (tgt := 420) hX dL_law_386 (by decide) (fun c386 => ?_) (fun c386 => ?_)
    · exact absurd c386 (by decide)
    refine zk_aload_n hX dL_law_389 rfl ?_
    refine zk_iconst (v := 1) hX dL_law_390 (by decide) ?_
    refine zk_aload hX dL_law_391 rfl ?_
    refine zk_bipush (v := 10) hX dL_law_393 (by decide) ?_
    refine zl_callS (M' := mL_lay) (As := [_, _, _, _]) hX dL_law_395 kcL_lay mlL_74 smL_lay rfl (s_L_lay (b := true) (r := 1) (m := 10) (v := fun y => nI (zgl (g y))) hn (ar_339 hn4) (by decide) (by decide) (by decide) hO3.1 (fun y hy => (h2 y hy).2.2.2.2)) rfl rfl (Nat.le_of_ble_eq_true rfl) rfl ⟨Nat.le_of_ble_eq_true rfl, Nat.le_of_ble_eq_true hsl⟩ (fun x W4 a2 q => ?_)
    obtain ⟨rfl, rfl, z4, s1, s2, s3⟩ := q
    have hO4 := Oc_ly hO3 (by decide) s1
    have e4 : W4 false = W2 false := (z4 false (by decide)).trans (z3 false (by decide))
    have t0 : (W4 false).1 4 0 = nI 10 := by rw [e4, q1.1 4 (by decide) (by decide) (by decide)]; exact p2
    have t1 : (W4 false).1 6 0 = nI 10 := by rw [e4]; exact q2
    have t2 : ∀ y, y < 10 → f y < 4096 ∧ (W4 false).1 5 y = nI (f y) := fun y hy => ⟨(h2 y hy).1.1, by rw [e4, q1.1 5 (by decide) (by decide) (by decide)]; exact p3 y hy⟩
    have t3 : ∀ y, y < 10 → g y < 4096 ∧ (W4 false).1 7 y = nI (g y) := fun y hy => ⟨(h2 y hy).1.2, by rw [e4]; exact q3 y hy⟩
    have u0 : (W4 true).1 4 0 = nI 10 := by rw [s1.1 4 (by decide) (by decide) (by decide)]; exact r2
    have u2 : ∀ y, y < 10 → zgl (f y) < 4096 ∧ (W4 true).1 5 y = nI (zgl (f y)) := fun y hy => ⟨hzl _, by rw [s1.1 5 (by decide) (by decide) (by decide)]; exact r3 y hy⟩
    have u3 : ∀ y, y < 10 → zgl (g y) < 4096 ∧ (W4 true).1 7 y = nI (zgl (g y)) := fun y hy => ⟨hzl _, s3 y hy⟩
    refine zk_if_eq (tgt := 420) hX dL_law_398 (by decide) (fun c398 => ?_) (fun c398 => ?_)
    · exact absurd c398 (by decide)
    refine zk_aload_n hX dL_law_401 rfl ?_
    refine zk_iconst (v := 0) hX dL_law_402 (by decide) ?_
    refine zk_iconst (v := 0) hX dL_law_403 (by decide) ?_
    refine zk_iconst (v := 1) hX dL_law_404 (by decide) ?_
    refine zk_iconst (v := 0) hX dL_law_405 (by decide) ?_
    refine zl_callO (M' := mX11_beast) (As := [_, _, _, _]) (b := false) hX hu hn2 dL_law_406 kcX11_beast mlL_77 viX11_beast rfl (o_beast0 (f := f) (g := g) (D := Dd false) (T := 99) (show Oc (W4 false) (Dd false) 99 from by rw [e4]; exact hO2) t0 t1 t2 t3) rfl rfl rfl (Nat.le_of_ble_eq_true rfl) rfl ⟨Nat.le_of_ble_eq_true rfl, Nat.le_of_ble_eq_true hsl⟩ (fun x W5 z5 q => ?_)
    obtain ⟨rfl, v1, v2⟩ := q
    have e5 : W5 true = W4 true := z5 true (by decide)
    refine zk_aload_n hX dL_law_409 rfl ?_
    refine zk_iconst (v := 0) hX dL_law_410 (by decide) ?_
    refine zk_iconst (v := 0) hX dL_law_411 (by decide) ?_
    refine zk_iconst (v := 1) hX dL_law_412 (by decide) ?_
    refine zk_iconst (v := 0) hX dL_law_413 (by decide) ?_
    refine zl_callO (M' := mX11_beast) (As := [_, _, _, _]) (b := true) hX hu hn2 dL_law_414 kcX11_beast mlL_77 viX11_beast rfl (o_beast0 (f := fun y => zgl (f y)) (g := fun y => zgl (g y)) (D := Dd true) (T := 99) (show Oc (W5 true) (Dd true) 99 from by rw [e5]; exact hO4) (by rw [e5]; exact u0) (by rw [e5]; exact s2) (by rw [e5]; exact u2) (by rw [e5]; exact u3)) rfl rfl rfl (Nat.le_of_ble_eq_true rfl) rfl ⟨Nat.le_of_ble_eq_true rfl, Nat.le_of_ble_eq_true hsl⟩ (fun x W6 z6 q => ?_)
    obtain ⟨rfl, x1, x2⟩ := q
    have e6 : W6 false = W5 false := z6 false (by decide)
    refine zk_icmp_eq (tgt := 422) hX dL_law_417 (by decide) (fun c417 => ?_) (fun c417 => ?_)
    rotate_left
    · exact absurd ec c417
    refine K a2 W6 (fun b => match b with | false => zofL f | true => zofL (fun y => zgl (f y))) (fun b => match b with | false => zofL g | true => zofL (fun y => zgl (g y))) v11 (by rw [h1]; exact hA) ⟨hM, zofL_g (fun _ _ => rfl), zofL_g (fun _ _ => rfl), hJ⟩ (fun b => ?_)
    cases b with
    | false =>
      rw [e6]
      exact ⟨v1, by decide, v2, fun p hp => absurd hp (Nat.not_lt_zero _)⟩
    | true => exact ⟨x1, by decide, x2, fun p hp => absurd hp (Nat.not_lt_zero _)⟩
  have l1 : ∀ z y (a1 : zA3) (f g : Nat → Nat), y + z = 10 → a1 332 = a3 332 → (∀ i, i < y → (f i < 4096 ∧ g i < 4096) ∧ a1 336 i = nI (f i) ∧ a1 337 i = nI (g i) ∧ a1 338 i = nI (zgl (f i)) ∧ a1 339 i = nI (zgl (g i))) → zk G X mL_law 340 340 sl 268 (loA ++ [.int (nI y), .null, .null, .null, .null, .null, .null, .null, .null]) [] (zcm Wd a1) := by
    intro z
    induction z with
    | zero =>
      intro y a1 f g hy h1 h2
      obtain rfl : y = 10 := by omega
      refine zk_iload hX dL_law_268 rfl ?_
      refine zk_bipush (v := 10) hX dL_law_270 (by decide) ?_
      refine zk_icmp_ge (tgt := 353) hX dL_law_272 (by decide) (fun c272 => ?_) (fun c272 => ?_)
      rotate_left
      · exact absurd (by decide) c272
      exact l2 a1 f g h1 h2 _
    | succ z ih =>
      intro y a1 f g hy h1 h2
      refine zk_iload hX dL_law_268 rfl ?_
      refine zk_bipush (v := 10) hX dL_law_270 (by decide) ?_
      refine zk_icmp_ge (tgt := 353) hX dL_law_272 (by decide) (fun c272 => ?_) (fun c272 => ?_)
      · exact absurd c272 (nI_ge (b := 10) (by omega) (by decide))
      refine zk_aload hX dL_law_275 rfl ?_
      refine zk_iload hX dL_law_277 rfl ?_
      refine zk_fload_n hX dL_law_279 rfl ?_
      refine zk_bipush (v := 30) hX dL_law_280 (by decide) ?_
      refine zk_iload hX dL_law_282 rfl ?_
      refine zk_iadd hX dL_law_284 ?_
      rw [show 30 + nI y = nI (30 + y) from nI_addE rfl rfl]
      refine zl_callS (M' := mL_cell) (As := [_, _]) hX dL_law_285 kcL_cell mlL_19 smL_cell rfl (s_L_cell (by omega)) rfl rfl (Nat.le_of_ble_eq_true rfl) rfl ⟨Nat.le_of_ble_eq_true rfl, Nat.le_of_ble_eq_true hsl⟩ (fun r W1 a2 q => ?_)
      obtain ⟨⟨rfl, rfl⟩, m1, hm1, rfl⟩ := q
      refine zk_fload_n hX dL_law_288 rfl ?_
      refine zk_bipush (v := 31) hX dL_law_289 (by decide) ?_
      refine zk_iload hX dL_law_291 rfl ?_
      refine zk_iadd hX dL_law_293 ?_
      rw [show 31 + nI y = nI (31 + y) from nI_addE rfl rfl]
      refine zl_callS (M' := mL_cell) (As := [_, _]) hX dL_law_294 kcL_cell mlL_19 smL_cell rfl (s_L_cell (by omega)) rfl rfl (Nat.le_of_ble_eq_true rfl) rfl ⟨Nat.le_of_ble_eq_true rfl, Nat.le_of_ble_eq_true hsl⟩ (fun r W1 a2 q => ?_)
      obtain ⟨⟨rfl, rfl⟩, m2, hm2, rfl⟩ := q
      refine zk_iand hX dL_law_297 ?_
      refine zk_sipush (v := 4095) hX dL_law_298 (by decide) ?_
      refine zk_iand hX dL_law_301 ?_
      rw [nI_and, zand12]
      refine zl_iastE hX hu dL_law_302 rfl (ar_336 hn4) (by first | assumption | omega) ?_
      refine zk_aload hX dL_law_303 rfl ?_
      refine zk_iload hX dL_law_305 rfl ?_
      refine zk_fload_n hX dL_law_307 rfl ?_
      refine zk_bipush (v := 45) hX dL_law_308 (by decide) ?_
      refine zk_iload hX dL_law_310 rfl ?_
      refine zk_iadd hX dL_law_312 ?_
      rw [show 45 + nI y = nI (45 + y) from nI_addE rfl rfl]
      refine zl_callS (M' := mL_cell) (As := [_, _]) hX dL_law_313 kcL_cell mlL_19 smL_cell rfl (s_L_cell (by omega)) rfl rfl (Nat.le_of_ble_eq_true rfl) rfl ⟨Nat.le_of_ble_eq_true rfl, Nat.le_of_ble_eq_true hsl⟩ (fun r W1 a2 q => ?_)
      obtain ⟨⟨rfl, rfl⟩, m3, hm3, rfl⟩ := q
      refine zk_sipush (v := 4095) hX dL_law_316 (by decide) ?_
      refine zk_iand hX dL_law_319 ?_
      rw [zand12]
      refine zl_iastE hX hu dL_law_320 rfl (ar_337 hn4) (by first | assumption | omega) ?_
      refine zk_aload hX dL_law_321 rfl ?_
      refine zk_iload hX dL_law_323 rfl ?_
      refine zk_aload hX dL_law_325 rfl ?_
      refine zk_iload hX dL_law_327 rfl ?_
      refine zl_ialdE hX dL_law_329 rfl (ar_336 hn4) (by first | assumption | omega) ?_
      rw [zu3_k (by decide), zu3_s]
      refine zl_callS (M' := mL_glass) (As := [_]) hX dL_law_330 kcL_glass mlL_71 smL_glass rfl (s_L_glass) rfl rfl (Nat.le_of_ble_eq_true rfl) rfl ⟨Nat.le_of_ble_eq_true rfl, Nat.le_of_ble_eq_true hsl⟩ (fun r W1 a2 q => ?_)
      obtain ⟨⟨rfl, rfl⟩, rfl⟩ := q
      rw [zgl_I (Nat.mod_lt _ (by decide))]
      refine zl_iastE hX hu dL_law_333 rfl (ar_338 hn4) (by first | assumption | omega) ?_
      refine zk_aload hX dL_law_334 rfl ?_
      refine zk_iload hX dL_law_336 rfl ?_
      refine zk_aload hX dL_law_338 rfl ?_
      refine zk_iload hX dL_law_340 rfl ?_
      refine zl_ialdE hX dL_law_342 rfl (ar_337 hn4) (by first | assumption | omega) ?_
      rw [zu3_k (by decide), zu3_s]
      refine zl_callS (M' := mL_glass) (As := [_]) hX dL_law_343 kcL_glass mlL_71 smL_glass rfl (s_L_glass) rfl rfl (Nat.le_of_ble_eq_true rfl) rfl ⟨Nat.le_of_ble_eq_true rfl, Nat.le_of_ble_eq_true hsl⟩ (fun r W1 a2 q => ?_)
      obtain ⟨⟨rfl, rfl⟩, rfl⟩ := q
      rw [zgl_I (Nat.mod_lt _ (by decide))]
      refine zl_iastE hX hu dL_law_346 rfl (ar_339 hn4) (by first | assumption | omega) ?_
      refine zk_iinc (lo' := [_, _, _, _, _, _, _, _, _, _, _, _, _, _, _, _, _, _, _, _]) hX dL_law_347 rfl (by exact zinc _) (Nat.le_of_ble_eq_true rfl) rfl rfl ?_
      refine zk_goto (tgt := 268) hX dL_law_350 (by decide) ?_
      refine ih (y + 1) _ (fun i => if i = y then (m1 &&& m2) % 4096 else f i) (fun i => if i = y then m3 % 4096 else g i) (by omega) ?_ (fun i hi => ?_)
      · rw [zu3_k (by decide), zu3_k (by decide), zu3_k (by decide), zu3_k (by decide)]
        exact h1
      · by_cases e : i = y
        · subst e
          rw [if_pos rfl, if_pos rfl]
          refine ⟨⟨Nat.mod_lt _ (by decide), Nat.mod_lt _ (by decide)⟩, ?_, ?_, ?_, ?_⟩
          · rw [zu3_k (by decide), zu3_k (by decide), zu3_k (by decide), zu3_s]
          · rw [zu3_k (by decide), zu3_k (by decide), zu3_s]
          · rw [zu3_k (by decide), zu3_s]
          · rw [zu3_s]
        · rw [if_neg e, if_neg e]
          obtain ⟨q1, q2, q3, q4, q5⟩ := h2 i (by omega)
          refine ⟨q1, ?_, ?_, ?_, ?_⟩
          · rw [zu3_k (by decide), zu3_k (by decide), zu3_k (by decide), zu3_n e]
            exact q2
          · rw [zu3_k (by decide), zu3_k (by decide), zu3_n e]
            exact q3
          · rw [zu3_k (by decide), zu3_n e]
            exact q4
          · rw [zu3_n e]
            exact q5
  refine zk_iconst (v := 0) hX dL_law_265 (by decide) ?_
  refine zk_istore (lo' := [_, _, _, _, _, _, _, _, _, _, _, _, _, _, _, _, _, _, _, _]) hX dL_law_266 (Nat.le_of_ble_eq_true rfl) rfl rfl ?_
  exact l1 10 0 a3 (fun _ => 0) (fun _ => 0) (by omega) rfl (fun i hi => absurd hi (Nat.not_lt_zero _))
end LAW
