theorem lyF_z {r : Nat} {w w' : zW} (h : lyF r w w') (hr : r < 6) : zFr [4 + 2 * r, 5 + 2 * r, 1] [] [] w w' := by
  refine ⟨by rw [h.2.2], fun a ha _ => ?_, fun a _ => by rw [h.2.2], fun i _ => ?_⟩
  · simp only [List.mem_cons, List.not_mem_nil, or_false, not_or] at ha
    exact h.1 a ha.1 ha.2.1 ha.2.2
  · rw [h.1 166 (by omega) (by omega) (by decide)]
theorem LI_f {Dd : Bool → zD} {Mm Yy : Bool → zS} {T n : Nat} {cs : Bool → Nat → Nat} {Wd Wd1 : Bool → zW} {b : Bool} {A B : List Nat} (h : LI Dd Mm Yy T n cs Wd) (z : zot Wd Wd1 b) (s : zFr A B [] (Wd b) (Wd1 b)) (k : (okc KI A && okc KL B) = true) (k1 : (okc kPo A && okc kPo B) = true) (k0 : A.contains 0 = false) : LI Dd Mm Yy T n cs Wd1 := fun c => by
  by_cases e : c = b
  · subst e
    exact ⟨Ob_f (h c).1 s k, Ps_f (h c).2 s k1 k0⟩
  · rw [z c e]
    exact h c
/-- the codes of the poses, of both -/
def lPc (Dd : Bool → zD) (t : Nat) (cs : Bool → Nat → Nat) : Prop := ∀ p, p < t → cs true p = nT (Dd false) - 1 - cs false p ∧ cs false p < nT (Dd false)
def cN (cs : Bool → Nat → Nat) (N t c : Nat) : Bool → Nat → Nat := fun b p => if p = t then (match b with | false => c | true => N - 1 - c) else cs b p
section LAW
variable {G : zG} {X : zX} {sl : Nat} {Dd : Bool → zD} {Mm Yy : Bool → zS} {a1 : zA3}
/-- a pose's turns are drawn, for both -/
theorem lw_turns {t : Nat} {Wd : Bool → zW} {v11 v12 v14 v15 v16 v17 : Value} (hX : zH G X mL_law) (hsl : Nat.ble sl 7302250 = true) (hD : zDok (Dd false)) (hJ : dJ (Dd false) ≤ 3) (hA : aH (a1 332) (Dd false)) (ht : t < 5) (K : ∀ (a2 : zA3) (c : Nat) (v14 : Value), c < nT (Dd false) → aH (a2 332) (Dd false) → (∀ j, j < dJ (Dd false) → a2 334 j = zcode_t (Dd false) c j ∧ a2 335 j = -zcode_t (Dd false) c j) → zk G X mL_law 340 340 sl 710 (loA ++ [v11, v12, .int (nI t), v14, v15, v16, v17, .null, .null]) [] (zcm Wd a2)) :
    zk G X mL_law 340 340 sl 656 (loA ++ [v11, v12, .int (nI t), v14, v15, v16, v17, .null, .null]) [] (zcm Wd a1) := by
  have hn : zLn 340 := Or.inr rfl
  have hu := zLn_u hn
  have hn2 := zLn_2 hn
  have hN := nT_le hD hJ
  have hN0 := nT_pos hD
  have loop : ∀ z j (a2 : zA3) c, c < nT (Dd false) → j + z = dJ (Dd false) → aH (a2 332) (Dd false) → (∀ i, i < dJ (Dd false) → a2 334 i = zcode_t (Dd false) c i) → (∀ i, i < j → a2 335 i = -zcode_t (Dd false) c i) → zk G X mL_law 340 340 sl 685 (loA ++ [v11, v12, .int (nI t), .int (nI j), v15, v16, v17, .null, .null]) [] (zcm Wd a2) := by
    intro z
    induction z with
    | zero =>
      intro j a2 c hc hj h1 h2 h3
      obtain rfl : j = dJ (Dd false) := by omega
      refine zk_iload hX dL_law_685 rfl ?_
      refine zk_aload_n hX dL_law_687 rfl ?_
      refine zk_iconst (v := 4) hX dL_law_688 (by decide) ?_
      refine zl_ialdE hX dL_law_689 (nI_k 4 rfl) (ar_332 hn) (by first | assumption | omega) ?_
      rw [h1.1.2.2]
      refine zk_icmp_ge (tgt := 710) hX dL_law_690 (by decide) (fun c690 => ?_) (fun c690 => ?_)
      rotate_left
      · exact absurd (nI_le (Nat.le_refl _) (by omega)) c690
      exact K a2 c _ hc h1 (fun j hj => ⟨h2 j hj, h3 j hj⟩)
    | succ z ih =>
      intro j a2 c hc hj h1 h2 h3
      refine zk_iload hX dL_law_685 rfl ?_
      refine zk_aload_n hX dL_law_687 rfl ?_
      refine zk_iconst (v := 4) hX dL_law_688 (by decide) ?_
      refine zl_ialdE hX dL_law_689 (nI_k 4 rfl) (ar_332 hn) (by first | assumption | omega) ?_
      rw [h1.1.2.2]
      refine zk_icmp_ge (tgt := 710) hX dL_law_690 (by decide) (fun c690 => ?_) (fun c690 => ?_)
      · exact absurd c690 (nI_ge (by omega) (by omega))
      refine zk_aload hX dL_law_693 rfl ?_
      refine zk_iload hX dL_law_695 rfl ?_
      refine zk_aload hX dL_law_697 rfl ?_
      refine zk_iload hX dL_law_699 rfl ?_
      refine zl_ialdE hX dL_law_701 rfl (ar_334 hn) (by first | assumption | omega) ?_
      rw [h2 j (by omega)]
      refine zk_ineg hX dL_law_702 ?_
      refine zl_iastE hX hu dL_law_703 rfl (ar_335 hn) (by first | assumption | omega) ?_
      refine zk_iinc (lo' := [_, _, _, _, _, _, _, _, _, _, _, _, _, _, _, _, _, _, _, _]) hX dL_law_704 rfl (by exact zinc _) (Nat.le_of_ble_eq_true rfl) rfl rfl ?_
      refine zk_goto (tgt := 685) hX dL_law_707 (by decide) ?_
      refine ih (j + 1) _ c hc (by omega) ?_ (fun i hi => ?_) (fun i hi => ?_)
      · rw [zu3_k (by decide)]
        exact h1
      · rw [zu3_k (by decide)]
        exact h2 i hi
      · by_cases e : i = j
        · subst e
          rw [zu3_s]
        · rw [zu3_n e]
          exact h3 i (by omega)
  refine zk_iload hX dL_law_656 rfl ?_
  refine zk_iconst (v := 5) hX dL_law_658 (by decide) ?_
  refine zk_icmp_ge (tgt := 1060) hX dL_law_659 (by decide) (fun c659 => ?_) (fun c659 => ?_)
  · exact absurd c659 (nI_ge (b := 5) ht (by decide))
  refine zk_aload_n hX dL_law_662 rfl ?_
  refine zk_fload_n hX dL_law_663 rfl ?_
  refine zk_bipush (v := 70) hX dL_law_664 (by decide) ?_
  refine zk_iload hX dL_law_666 rfl ?_
  refine zk_iadd hX dL_law_668 ?_
  rw [show 70 + nI t = nI (70 + t) from nI_addE rfl rfl]
  refine zl_callS (M' := mL_cell) (As := [_, _]) hX dL_law_669 kcL_cell mlL_19 smL_cell rfl (s_L_cell (by omega)) rfl rfl (Nat.le_of_ble_eq_true rfl) rfl ⟨Nat.le_of_ble_eq_true rfl, Nat.le_of_ble_eq_true hsl⟩ (fun r W1 a2 q => ?_)
  obtain ⟨⟨rfl, rfl⟩, m, hm, rfl⟩ := q
  refine zk_aload_n hX dL_law_672 rfl ?_
  refine zl_callS (M' := mL_all) (As := [_]) hX dL_law_673 kcL_all mlL_96 smL_all rfl (s_L_all (ar_332 hn) hA hD) rfl rfl (Nat.le_of_ble_eq_true rfl) rfl ⟨Nat.le_of_ble_eq_true rfl, Nat.le_of_ble_eq_true hsl⟩ (fun r W1 a2 q => ?_)
  obtain ⟨⟨rfl, rfl⟩, rfl⟩ := q
  have hne : ¬ nI (zpr (zsp (Dd false)) (dJ (Dd false))) = 0 := fun q => by have := nI_inj (show nT (Dd false) < 2 ^ 31 by omega) (by decide) (q.trans (show (0 : Int32) = nI 0 from rfl)); omega
  refine zk_irem hX dL_law_676 hne ?_
  refine zk_aload hX dL_law_677 rfl ?_
  rw [nI_rem (a := m) (b := zpr (zsp (Dd false)) (dJ (Dd false))) (by omega) (show nT (Dd false) < 2 ^ 31 by omega)]
  refine zl_callSv (M' := mL_turns) (As := [_, _, _]) hX dL_law_679 kcL_turns mlL_100 smL_turns rfl (s_L_turns (c := m % nT (Dd false)) hn (ar_332 hn) (ar_334 hn) (by decide) hA hD (Nat.mod_lt _ hN0)) rfl rfl (Nat.le_of_ble_eq_true rfl) rfl ⟨Nat.le_of_ble_eq_true rfl, Nat.le_of_ble_eq_true hsl⟩ (fun W1 a2 q => ?_)
  obtain ⟨rfl, q1, q2⟩ := q
  refine zk_iconst (v := 0) hX dL_law_682 (by decide) ?_
  refine zk_istore (lo' := [_, _, _, _, _, _, _, _, _, _, _, _, _, _, _, _, _, _, _, _]) hX dL_law_683 (Nat.le_of_ble_eq_true rfl) rfl rfl ?_
  exact loop (dJ (Dd false)) 0 a2 _ (Nat.mod_lt _ hN0) (by omega) (by rw [q1 332 (by decide)]; exact hA) q2 (fun i hi => absurd hi (Nat.not_lt_zero _))
/-- the pose is put into both books -/
theorem lw_pose {t c : Nat} {cs : Bool → Nat → Nat} {Wd : Bool → zW} {v11 v12 v14 v15 v16 v17 : Value} (hX : zH G X mL_law) (hsl : Nat.ble sl 7302250 = true) (hL : LA Dd Mm Yy) (hA : aH (a1 332) (Dd false)) (ht : t < 5) (hc : c < nT (Dd false)) (hI : LI Dd Mm Yy 7 t cs Wd) (hv : ∀ j, j < dJ (Dd false) → a1 334 j = zcode_t (Dd false) c j ∧ a1 335 j = -zcode_t (Dd false) c j)
    (K : ∀ Wd1, LI Dd Mm Yy 7 (t + 1) (cN cs (nT (Dd false)) t c) Wd1 → zk G X mL_law 340 340 sl 798 (loA ++ [v11, v12, .int (nI t), v14, v15, v16, v17, .null, .null]) [] (zcm Wd1 a1)) :
    zk G X mL_law 340 340 sl 710 (loA ++ [v11, v12, .int (nI t), v14, v15, v16, v17, .null, .null]) [] (zcm Wd a1) := by
  have hn : zLn 340 := Or.inr rfl
  have hu := zLn_u hn
  have hn2 := zLn_2 hn
  obtain ⟨hM, hm, hy, hJ⟩ := hL
  have hD := (hI false).1.2.1.1
  have hD' := (hI true).1.2.1.1
  have hN' : nT (Dd true) = nT (Dd false) := zprN_g hM
  have hc' : nT (Dd false) - 1 - c < nT (Dd true) := by omega
  have eJ : dJ (Dd true) = dJ (Dd false) := hM.1.2.2
  have ek := kd_g (T := 7) hD hM hc
  have el := ld_g hD hM hc
  have k12 : (okc KI [12, 13, 1] && okc KL []) = true := by decide +kernel
  have p12 : (okc kPo [12, 13, 1] && okc kPo []) = true := by decide +kernel
  refine zk_aload_n hX dL_law_710 rfl ?_
  refine zk_iconst (v := 4) hX dL_law_711 (by decide) ?_
  refine zk_aload hX dL_law_712 rfl ?_
  refine zk_aload_n hX dL_law_714 rfl ?_
  refine zk_iconst (v := 4) hX dL_law_715 (by decide) ?_
  refine zl_ialdE hX dL_law_716 (nI_k 4 rfl) (ar_332 hn) (by first | assumption | omega) ?_
  rw [hA.1.2.2]
  refine zl_callS (M' := mL_lay) (As := [_, _, _, _]) hX dL_law_717 kcL_lay mlL_74 smL_lay rfl (s_L_lay (b := false) (r := 4) (m := dJ (Dd false)) (v := zcode_t (Dd false) c) hn (ar_334 hn) (by omega) (by decide) (by omega) (hI false).1.1 (fun j hj => (hv j hj).1)) rfl rfl (Nat.le_of_ble_eq_true rfl) rfl ⟨Nat.le_of_ble_eq_true rfl, Nat.le_of_ble_eq_true hsl⟩ (fun x W1 a2 q => ?_)
  obtain ⟨rfl, rfl, z1, p1, p2, p3⟩ := q
  have hI1 := LI_f hI z1 (lyF_z p1 (by decide)) k12 p12 (by decide)
  refine zk_if_eq (tgt := 796) hX dL_law_720 (by decide) (fun c720 => ?_) (fun c720 => ?_)
  · exact absurd c720 (by decide)
  refine zk_aload_n hX dL_law_723 rfl ?_
  refine zk_iconst (v := 4) hX dL_law_724 (by decide) ?_
  refine zk_aload hX dL_law_725 rfl ?_
  refine zk_aload_n hX dL_law_727 rfl ?_
  refine zk_iconst (v := 4) hX dL_law_728 (by decide) ?_
  refine zl_ialdE hX dL_law_729 (nI_k 4 rfl) (ar_332 hn) (by first | assumption | omega) ?_
  rw [hA.1.2.2]
  refine zl_callS (M' := mL_lay) (As := [_, _, _, _]) hX dL_law_730 kcL_lay mlL_74 smL_lay rfl (s_L_lay (b := true) (r := 4) (m := dJ (Dd false)) (v := zcode_t (Dd true) (nT (Dd false) - 1 - c)) hn (ar_335 hn) (by omega) (by decide) (by omega) (hI1 true).1.1 (fun j hj => by rw [(hv j hj).2, (zcode_g hD hM hc j hj).2])) rfl rfl (Nat.le_of_ble_eq_true rfl) rfl ⟨Nat.le_of_ble_eq_true rfl, Nat.le_of_ble_eq_true hsl⟩ (fun x W2 a2 q => ?_)
  obtain ⟨rfl, rfl, z2, q1, q2, q3⟩ := q
  have hI2 := LI_f hI1 z2 (lyF_z q1 (by decide)) k12 p12 (by decide)
  have e2 : W2 false = W1 false := z2 false (by decide)
  refine zk_if_eq (tgt := 796) hX dL_law_733 (by decide) (fun c733 => ?_) (fun c733 => ?_)
  · exact absurd c733 (by decide)
  refine zk_aload_n hX dL_law_736 rfl ?_
  refine zk_iconst (v := 4) hX dL_law_737 (by decide) ?_
  refine zk_bipush (v := -9) hX dL_law_738 (by decide) ?_
  refine zl_callO (M' := mX11_pose) (As := [_, _]) (b := false) hX hu hn2 dL_law_740 kcX11_pose mlL_104 viX11_pose rfl (o_pose (c := c) (hI2 false).1 (hI2 false).2 ht hc (by rw [e2]; exact p2) (fun j hj => by rw [e2]; exact p3 j hj)) rfl rfl rfl (Nat.le_of_ble_eq_true rfl) rfl ⟨Nat.le_of_ble_eq_true rfl, Nat.le_of_ble_eq_true hsl⟩ (fun x W3 z3 q => ?_)
  obtain ⟨rfl, r1, r2, r3⟩ := q
  have e3 : W3 true = W2 true := z3 true (by decide)
  refine zk_iload hX dL_law_743 rfl ?_
  refine zk_icmp_ne (tgt := 796) hX dL_law_745 (by decide) (fun c745 => ?_) (fun c745 => ?_)
  · exact absurd rfl c745
  refine zk_aload_n hX dL_law_748 rfl ?_
  refine zk_iconst (v := 4) hX dL_law_749 (by decide) ?_
  refine zk_bipush (v := -9) hX dL_law_750 (by decide) ?_
  refine zl_callO (M' := mX11_pose) (As := [_, _]) (b := true) hX hu hn2 dL_law_752 kcX11_pose mlL_104 viX11_pose rfl (o_pose (c := nT (Dd false) - 1 - c) (show Ob (W3 true) (Dd true) (Mm true) (Yy true) 7 from by rw [e3]; exact (hI2 true).1) (show Ps (W3 true) (Dd true) 7 t (cs true) from by rw [e3]; exact (hI2 true).2) ht hc' (by rw [e3, eJ]; exact q2) (fun j hj => by rw [e3]; exact q3 j (by omega))) rfl rfl rfl (Nat.le_of_ble_eq_true rfl) rfl ⟨Nat.le_of_ble_eq_true rfl, Nat.le_of_ble_eq_true hsl⟩ (fun x W4 z4 q => ?_)
  obtain ⟨rfl, s1, s2, s3⟩ := q
  have e4 : W4 false = W3 false := z4 false (by decide)
  have hI4 : LI Dd Mm Yy 7 (t + 1) (cN cs (nT (Dd false)) t c) W4 := fun b => by { cases b with | false => rw [e4]; exact ⟨r1, r2⟩ | true => exact ⟨s1, s2⟩ }
  have t4 : (W4 false).1 1 0 = zkd (Dd false) (zcode_t (Dd false) c) (-1) 7 := by rw [e4]; exact r3
  refine zk_iload hX dL_law_755 rfl ?_
  refine zk_icmp_ne (tgt := 796) hX dL_law_757 (by decide) (fun c757 => ?_) (fun c757 => ?_)
  · exact absurd rfl c757
  refine zk_aload_n hX dL_law_760 rfl ?_
  refine zl_callO (M' := mX11_asked) (As := []) (b := false) hX hu hn2 dL_law_761 kcX11_asked mlL_56 viX11_asked rfl (o_asked (hI4 false).1.1) rfl rfl rfl (Nat.le_of_ble_eq_true rfl) rfl ⟨Nat.le_of_ble_eq_true rfl, Nat.le_of_ble_eq_true hsl⟩ (fun x W5 z5 q => ?_)
  obtain ⟨rfl, q5⟩ := q
  have hI5 := LI_c hI4 z5 (by rw [q5]; exact Sc_r _)
  have u5 : (W5 true).1 1 0 = zkd (Dd true) (zcode_t (Dd true) (nT (Dd false) - 1 - c)) (-1) 7 := by rw [z5 true (by decide)]; exact s3
  refine zk_aload_n hX dL_law_764 rfl ?_
  refine zl_callO (M' := mX11_asked) (As := []) (b := true) hX hu hn2 dL_law_765 kcX11_asked mlL_56 viX11_asked rfl (o_asked (hI5 true).1.1) rfl rfl rfl (Nat.le_of_ble_eq_true rfl) rfl ⟨Nat.le_of_ble_eq_true rfl, Nat.le_of_ble_eq_true hsl⟩ (fun x W6 z6 q => ?_)
  obtain ⟨rfl, q6⟩ := q
  have hI6 := LI_c hI5 z6 (by rw [q6]; exact Sc_r _)
  refine zk_icmp_ne (tgt := 796) hX dL_law_768 (by decide) (fun c768 => ?_) (fun c768 => ?_)
  · exact absurd (by rw [t4, u5, ek]) c768
  refine zk_aload_n hX dL_law_771 rfl ?_
  refine zk_aload_n hX dL_law_772 rfl ?_
  refine zk_iload hX dL_law_773 rfl ?_
  refine zk_iconst (v := 1) hX dL_law_775 (by decide) ?_
  refine zl_callO (M' := mX11_about) (As := [_, _]) (b := false) hX hu hn2 dL_law_776 kcX11_about mlL_107 viX11_about rfl (o_about (p := t) (k := 1) (hI6 false).1.1 (hI6 false).2 (Nat.lt_succ_self t) (by decide)) rfl rfl rfl (Nat.le_of_ble_eq_true rfl) rfl ⟨Nat.le_of_ble_eq_true rfl, Nat.le_of_ble_eq_true hsl⟩ (fun x W7 z7 q => ?_)
  obtain ⟨rfl, q7⟩ := q
  have hI7 := LI_c hI6 z7 (by rw [q7]; exact Sc_1)
  have t7 : (W7 false).1 1 0 = nI (zldo (Dd false) (zcode_t (Dd false) c) (-1) (dJ (Dd false))) := by { rw [q7, zsi_1, if_pos ⟨rfl, rfl⟩, if_neg (by decide)]; show nI (zldo _ (zcode_t _ (if t = t then c else _)) _ _) = _; rw [if_pos rfl] }
  refine zl_callS (M' := mL_tells) (As := [_, _]) hX dL_law_779 kcL_tells mlL_110 smL_tells rfl (s_L_tells (b := false) (x := 1) hn (hI7 false).1.1) rfl rfl (Nat.le_of_ble_eq_true rfl) rfl ⟨Nat.le_of_ble_eq_true rfl, Nat.le_of_ble_eq_true hsl⟩ (fun x W8 a2 q => ?_)
  obtain ⟨⟨rfl, rfl⟩, rfl⟩ := q
  refine zk_aload_n hX dL_law_782 rfl ?_
  refine zk_aload_n hX dL_law_783 rfl ?_
  refine zk_iload hX dL_law_784 rfl ?_
  refine zk_iconst (v := 1) hX dL_law_786 (by decide) ?_
  refine zl_callO (M' := mX11_about) (As := [_, _]) (b := true) hX hu hn2 dL_law_787 kcX11_about mlL_107 viX11_about rfl (o_about (p := t) (k := 1) (hI7 true).1.1 (hI7 true).2 (Nat.lt_succ_self t) (by decide)) rfl rfl rfl (Nat.le_of_ble_eq_true rfl) rfl ⟨Nat.le_of_ble_eq_true rfl, Nat.le_of_ble_eq_true hsl⟩ (fun x W9 z9 q => ?_)
  obtain ⟨rfl, q9⟩ := q
  have hI9 := LI_c hI7 z9 (by rw [q9]; exact Sc_1)
  have t9 : (W9 true).1 1 0 = nI (zldo (Dd true) (zcode_t (Dd true) (nT (Dd false) - 1 - c)) (-1) (dJ (Dd true))) := by { rw [q9, zsi_1, if_pos ⟨rfl, rfl⟩, if_neg (by decide)]; show nI (zldo _ (zcode_t _ (if t = t then nT (Dd false) - 1 - c else _)) _ _) = _; rw [if_pos rfl] }
  refine zl_callS (M' := mL_tells) (As := [_, _]) hX dL_law_790 kcL_tells mlL_110 smL_tells rfl (s_L_tells (b := true) (x := 1) hn (hI9 true).1.1) rfl rfl (Nat.le_of_ble_eq_true rfl) rfl ⟨Nat.le_of_ble_eq_true rfl, Nat.le_of_ble_eq_true hsl⟩ (fun x W10 a2 q => ?_)
  obtain ⟨⟨rfl, rfl⟩, rfl⟩ := q
  refine zk_icmp_eq (tgt := 798) hX dL_law_793 (by decide) (fun c793 => ?_) (fun c793 => ?_)
  rotate_left
  · exact absurd (by rw [if_pos rfl, if_pos rfl, t7, t9, el]) c793
  exact K W10 hI9
end LAW
