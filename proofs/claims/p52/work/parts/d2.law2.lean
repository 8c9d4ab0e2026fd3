theorem LI_s {Dd : Bool → zD} {Mm Yy : Bool → zS} {T v : Nat} {cs : Bool → Nat → Nat} {Wd Wd1 Wd2 : Bool → zW} (h : LI Dd Mm Yy T 0 cs Wd) (hv : v ≤ 99) (z1 : zot Wd Wd1 false) (z2 : zot Wd1 Wd2 true) (q1 : Wd1 false = zsi (Wd false) 0 8 (nI v)) (q2 : Wd2 true = zsi (Wd1 true) 0 8 (nI v)) : LI Dd Mm Yy v 0 cs Wd2 := fun b => by
  have key : ∀ b, Wd2 b = zsi (Wd b) 0 8 (nI v) := by
    intro b
    cases b with
    | false => rw [z2 false (by decide)]; exact q1
    | true => rw [q2, z1 true (by decide)]
  rw [key b]
  refine ⟨Ob_s (h b).1 hv, by decide, ?_, fun p hp => absurd hp (Nat.not_lt_zero _)⟩
  rw [zsi_1, if_neg (fun q => absurd q.2 (by decide))]
  exact (h b).2.2.1
theorem zoe_n {m : Nat} (h : m < 5000) : ¬ nI m < 0 := fun q => absurd (nI_pos' (n := m) (by omega)) (Int32.not_le.mpr q)
section LAW
variable {G : zG} {X : zX} {sl : Nat} {Dd : Bool → zD} {Mm Yy : Bool → zS} {a1 : zA3}
/-- the least that is off, at strain v -/
abbrev lst (Dd : Bool → zD) (Mm Yy : Bool → zS) (v : Nat) : Option Nat := zmn (mQ (Dd false) (-1) v) (mF (Dd false) (-1) 1 3 3 (Mm false) (Yy false)) (nT (Dd false))
abbrev hld (Dd : Bool → zD) (v : Nat) : Nat := zcnt (mQ (Dd false) (-1) v) (nT (Dd false))
theorem lw_ask {T v : Nat} {bf : Nat} {cs : Bool → Nat → Nat} {Wd : Bool → zW} {v13 v14 v15 : Value} (hX : zH G X mL_law) (hsl : Nat.ble sl 7302250 = true) (hL : LA Dd Mm Yy) (hI : LI Dd Mm Yy T 0 cs Wd) (hv : v < 8) (hb : bf ≤ hld Dd v) (K : ∀ Wd1, LI Dd Mm Yy v 0 cs Wd1 → zk G X mL_law 340 340 sl 513 (loA ++ [.int (nI bf), .int (nI v), v13, v14, v15, .null, .null, .null, .null]) [] (zcm Wd1 a1)) :
    zk G X mL_law 340 340 sl 428 (loA ++ [.int (nI bf), .int (nI v), v13, v14, v15, .null, .null, .null, .null]) [] (zcm Wd a1) := by
  have hn : zLn 340 := Or.inr rfl
  have hu := zLn_u hn
  have hn2 := zLn_2 hn
  obtain ⟨hM, hm, hy, hJ⟩ := hL
  have hD := (hI false).1.2.1.1
  have hD' := (hI true).1.2.1.1
  have hN : nT (Dd false) ≤ 4096 := (hI false).1.2.1.2
  have c1 := zcnt_le (mQ (Dd false) (-1) v) (nT (Dd false))
  have c0 : hld Dd v ≤ nT (Dd false) := c1
  have eM := m_many (T := v) hD hM
  have eS := m_str (T := v) hD hM
  have eN := m_near (T := v) hD hM hm hy
  have eV := m_never (T := v) hD hM hm
  refine zk_iload hX dL_law_428 rfl ?_
  refine zk_bipush (v := 8) hX dL_law_430 (by decide) ?_
  refine zk_icmp_ge (tgt := 650) hX dL_law_432 (by decide) (fun c432 => ?_) (fun c432 => ?_)
  · exact absurd c432 (nI_ge (b := 8) hv (by decide))
  refine zk_aload_n hX dL_law_435 rfl ?_
  refine zk_iload hX dL_law_436 rfl ?_
  refine zl_callO (M' := mX11_strain) (As := [_]) (b := false) hX hu hn2 dL_law_438 kcX11_strain mlL_81 viX11_strain rfl (o_strain (hI false).1 (show v ≤ 99 by omega)) rfl rfl rfl (Nat.le_of_ble_eq_true rfl) rfl ⟨Nat.le_of_ble_eq_true rfl, Nat.le_of_ble_eq_true hsl⟩ (fun r W1 z1 q => ?_)
  obtain ⟨rfl, q1⟩ := q
  have e1 : W1 true = Wd true := z1 true (by decide)
  refine zk_aload_n hX dL_law_441 rfl ?_
  refine zk_iload hX dL_law_442 rfl ?_
  refine zl_callO (M' := mX11_strain) (As := [_]) (b := true) hX hu hn2 dL_law_444 kcX11_strain mlL_81 viX11_strain rfl (o_strain (D := Dd true) (M := Mm true) (Y := Yy true) (T := T) (show Ob (W1 true) _ _ _ _ from by rw [e1]; exact (hI true).1) (show v ≤ 99 by omega)) rfl rfl rfl (Nat.le_of_ble_eq_true rfl) rfl ⟨Nat.le_of_ble_eq_true rfl, Nat.le_of_ble_eq_true hsl⟩ (fun r W2 z2 q => ?_)
  obtain ⟨rfl, q2⟩ := q
  have hI2 := LI_s hI (by omega) z1 z2 q1 q2
  refine zk_icmp_ne (tgt := 511) hX dL_law_447 (by decide) (fun c447 => ?_) (fun c447 => ?_)
  · exact absurd rfl c447
  refine zk_aload_n hX dL_law_450 rfl ?_
  refine zl_callO (M' := mX11_many) (As := []) (b := false) hX hu hn2 dL_law_451 kcX11_many mlL_84 viX11_many rfl (o_many (hI2 false).1) rfl rfl rfl (Nat.le_of_ble_eq_true rfl) rfl ⟨Nat.le_of_ble_eq_true rfl, Nat.le_of_ble_eq_true hsl⟩ (fun r W3 z3 q => ?_)
  obtain ⟨rfl, q3⟩ := q
  have hI3 := LI_c hI2 z3 (by rw [q3]; exact Sc_1)
  refine zk_iload hX dL_law_454 rfl ?_
  refine zk_icmp_lt (tgt := 511) hX dL_law_456 (by decide) (fun c456 => ?_) (fun c456 => ?_)
  · exact absurd c456 (nI_nlt hb (by omega))
  refine zk_aload_n hX dL_law_459 rfl ?_
  refine zl_callO (M' := mX11_many) (As := []) (b := false) hX hu hn2 dL_law_460 kcX11_many mlL_84 viX11_many rfl (o_many (hI3 false).1) rfl rfl rfl (Nat.le_of_ble_eq_true rfl) rfl ⟨Nat.le_of_ble_eq_true rfl, Nat.le_of_ble_eq_true hsl⟩ (fun r W4 z4 q => ?_)
  obtain ⟨rfl, q4⟩ := q
  have hI4 := LI_c hI3 z4 (by rw [q4]; exact Sc_1)
  refine zk_aload_n hX dL_law_463 rfl ?_
  refine zl_callO (M' := mX11_many) (As := []) (b := true) hX hu hn2 dL_law_464 kcX11_many mlL_84 viX11_many rfl (o_many (hI4 true).1) rfl rfl rfl (Nat.le_of_ble_eq_true rfl) rfl ⟨Nat.le_of_ble_eq_true rfl, Nat.le_of_ble_eq_true hsl⟩ (fun r W5 z5 q => ?_)
  obtain ⟨rfl, q5⟩ := q
  have hI5 := LI_c hI4 z5 (by rw [q5]; exact Sc_1)
  have t5 : (W5 false).1 1 0 = nI (zcnt (mSt (Dd false) v) (nT (Dd false))) := by rw [z5 false (by decide), q4, zsi_1, if_pos ⟨rfl, rfl⟩]
  have u5 : (W5 true).1 1 0 = nI (zcnt (mSt (Dd true) v) (nT (Dd true))) := by rw [q5, zsi_1, if_pos ⟨rfl, rfl⟩]
  refine zk_icmp_ne (tgt := 511) hX dL_law_467 (by decide) (fun c467 => ?_) (fun c467 => ?_)
  · exact absurd (congrArg nI eM.symm) c467
  refine zk_aload_n hX dL_law_470 rfl ?_
  refine zl_callO (M' := mX11_asked) (As := []) (b := false) hX hu hn2 dL_law_471 kcX11_asked mlL_56 viX11_asked rfl (o_asked (hI5 false).1.1) rfl rfl rfl (Nat.le_of_ble_eq_true rfl) rfl ⟨Nat.le_of_ble_eq_true rfl, Nat.le_of_ble_eq_true hsl⟩ (fun r W6 z6 q => ?_)
  obtain ⟨rfl, q6⟩ := q
  have hI6 := LI_c hI5 z6 (by rw [q6]; exact Sc_r _)
  have u6 : (W6 true).1 1 0 = nI (zcnt (mSt (Dd true) v) (nT (Dd true))) := by rw [z6 true (by decide)]; exact u5
  refine zk_aload_n hX dL_law_474 rfl ?_
  refine zl_callO (M' := mX11_asked) (As := []) (b := true) hX hu hn2 dL_law_475 kcX11_asked mlL_56 viX11_asked rfl (o_asked (hI6 true).1.1) rfl rfl rfl (Nat.le_of_ble_eq_true rfl) rfl ⟨Nat.le_of_ble_eq_true rfl, Nat.le_of_ble_eq_true hsl⟩ (fun r W7 z7 q => ?_)
  obtain ⟨rfl, q7⟩ := q
  have hI7 := LI_c hI6 z7 (by rw [q7]; exact Sc_r _)
  refine zk_icmp_ne (tgt := 511) hX dL_law_478 (by decide) (fun c478 => ?_) (fun c478 => ?_)
  · exact absurd (by rw [t5, u6, eS]) c478
  refine zk_aload_n hX dL_law_481 rfl ?_
  refine zk_iconst (v := 0) hX dL_law_482 (by decide) ?_
  refine zk_iconst (v := 2) hX dL_law_483 (by decide) ?_
  refine zl_callO (M' := mX11_nearest) (As := [_, _]) (b := false) hX hu hn2 dL_law_484 kcX11_nearest mlL_87 viX11_nearest rfl (o_near (k := 0) (r := 2) (hI7 false).1 (by decide) (hI7 false).1.2.2.2.2.2.2.1 (hI7 false).1.2.2.2.2.2.2.2 (Or.inl rfl)) rfl rfl rfl (Nat.le_of_ble_eq_true rfl) rfl ⟨Nat.le_of_ble_eq_true rfl, Nat.le_of_ble_eq_true hsl⟩ (fun r W8 z8 q => ?_)
  obtain ⟨rfl, q8⟩ := q
  have hI8 := LI_c hI7 z8 (S5_c q8)
  refine zk_aload_n hX dL_law_487 rfl ?_
  refine zk_iconst (v := 0) hX dL_law_488 (by decide) ?_
  refine zk_iconst (v := 2) hX dL_law_489 (by decide) ?_
  refine zl_callO (M' := mX11_nearest) (As := [_, _]) (b := true) hX hu hn2 dL_law_490 kcX11_nearest mlL_87 viX11_nearest rfl (o_near (k := 0) (r := 2) (hI8 true).1 (by decide) (hI8 true).1.2.2.2.2.2.2.1 (hI8 true).1.2.2.2.2.2.2.2 (Or.inl rfl)) rfl rfl rfl (Nat.le_of_ble_eq_true rfl) rfl ⟨Nat.le_of_ble_eq_true rfl, Nat.le_of_ble_eq_true hsl⟩ (fun r W9 z9 q => ?_)
  obtain ⟨rfl, q9⟩ := q
  have hI9 := LI_c hI8 z9 (S5_c q9)
  refine zk_icmp_ne (tgt := 511) hX dL_law_493 (by decide) (fun c493 => ?_) (fun c493 => ?_)
  · exact absurd (congrArg zoe eN.symm) c493
  refine zk_aload_n hX dL_law_496 rfl ?_
  refine zk_iconst (v := 0) hX dL_law_497 (by decide) ?_
  refine zk_iconst (v := 3) hX dL_law_498 (by decide) ?_
  refine zl_callO (M' := mX11_never) (As := [_, _]) (b := false) hX hu hn2 dL_law_499 kcX11_never mlL_90 viX11_never rfl (o_never (hI9 false).1) rfl rfl rfl (Nat.le_of_ble_eq_true rfl) rfl ⟨Nat.le_of_ble_eq_true rfl, Nat.le_of_ble_eq_true hsl⟩ (fun r Wa za q => ?_)
  obtain ⟨rfl, qa⟩ := q
  have hIa := LI_c hI9 za (S5_c qa)
  refine zk_aload_n hX dL_law_502 rfl ?_
  refine zk_iconst (v := 0) hX dL_law_503 (by decide) ?_
  refine zk_iconst (v := 3) hX dL_law_504 (by decide) ?_
  refine zl_callO (M' := mX11_never) (As := [_, _]) (b := true) hX hu hn2 dL_law_505 kcX11_never mlL_90 viX11_never rfl (o_never (hIa true).1) rfl rfl rfl (Nat.le_of_ble_eq_true rfl) rfl ⟨Nat.le_of_ble_eq_true rfl, Nat.le_of_ble_eq_true hsl⟩ (fun r Wb zb q => ?_)
  obtain ⟨rfl, qb⟩ := q
  have hIb := LI_c hIa zb (S5_c qb)
  refine zk_icmp_eq (tgt := 513) hX dL_law_508 (by decide) (fun c508 => ?_) (fun c508 => ?_)
  rotate_left
  · exact absurd (congrArg nI eV.symm) c508
  exact K Wb hIb
theorem lw_least {v : Nat} {bf : Nat} {cs : Bool → Nat → Nat} {Wd : Bool → zW} {v13 v14 v15 : Value} (hX : zH G X mL_law) (hsl : Nat.ble sl 7302250 = true) (hI : LI Dd Mm Yy v 0 cs Wd) (K : ∀ Wd1, LI Dd Mm Yy v 0 cs Wd1 → zk G X mL_law 340 340 sl 568 (loA ++ [.int (nI (hld Dd v)), .int (nI v), .int (zoe (lst Dd Mm Yy v)), v14, v15, .null, .null, .null, .null]) [] (zcm Wd1 a1)) :
    zk G X mL_law 340 340 sl 513 (loA ++ [.int (nI bf), .int (nI v), v13, v14, v15, .null, .null, .null, .null]) [] (zcm Wd a1) := by
  have hn : zLn 340 := Or.inr rfl
  have hu := zLn_u hn
  have hn2 := zLn_2 hn
  have hN : nT (Dd false) ≤ 4096 := (hI false).1.2.1.2
  have c1 := zcnt_le (mQ (Dd false) (-1) v) (nT (Dd false))
  rcases hz : lst Dd Mm Yy v with _ | m
  · have h0 : hld Dd v = 0 := near_n hz
    refine zk_aload_n hX dL_law_513 rfl ?_
    refine zl_callO (M' := mX11_many) (As := []) (b := false) hX hu hn2 dL_law_514 kcX11_many mlL_84 viX11_many rfl (o_many (hI false).1) rfl rfl rfl (Nat.le_of_ble_eq_true rfl) rfl ⟨Nat.le_of_ble_eq_true rfl, Nat.le_of_ble_eq_true hsl⟩ (fun r W1 z1 q => ?_)
    obtain ⟨rfl, q1⟩ := q
    have hI1 := LI_c hI z1 (by rw [q1]; exact Sc_1)
    refine zk_istore (lo' := [_, _, _, _, _, _, _, _, _, _, _, _, _, _, _, _, _, _, _, _]) hX dL_law_517 (Nat.le_of_ble_eq_true rfl) rfl rfl ?_
    refine zk_aload_n hX dL_law_519 rfl ?_
    refine zk_iconst (v := 0) hX dL_law_520 (by decide) ?_
    refine zk_iconst (v := 2) hX dL_law_521 (by decide) ?_
    refine zl_callO (M' := mX11_nearest) (As := [_, _]) (b := false) hX hu hn2 dL_law_522 kcX11_nearest mlL_87 viX11_nearest rfl (o_near (k := 0) (r := 2) (hI1 false).1 (by decide) (hI1 false).1.2.2.2.2.2.2.1 (hI1 false).1.2.2.2.2.2.2.2 (Or.inl rfl)) rfl rfl rfl (Nat.le_of_ble_eq_true rfl) rfl ⟨Nat.le_of_ble_eq_true rfl, Nat.le_of_ble_eq_true hsl⟩ (fun r W2 z2 q => ?_)
    obtain ⟨rfl, q2⟩ := q
    have hI2 := LI_c hI1 z2 (S5_c q2)
    refine zk_istore (lo' := [_, _, _, _, _, _, _, _, _, _, _, _, _, _, _, _, _, _, _, _]) hX dL_law_525 (Nat.le_of_ble_eq_true rfl) rfl rfl ?_
    refine zk_iload hX dL_law_527 rfl ?_
    rw [show zmn (mQ (Dd false) (-1) v) (mF (Dd false) (-1) 1 3 3 (Mm false) (Yy false)) (nT (Dd false)) = none from hz]
    refine zk_if_lt (tgt := 543) hX dL_law_529 (by decide) (fun c529 => ?_) (fun c529 => ?_)
    rotate_left
    · exact absurd (by decide) c529
    refine zk_iload hX dL_law_543 rfl ?_
    refine zk_if_lt (tgt := 552) hX dL_law_545 (by decide) (fun c545 => ?_) (fun c545 => ?_)
    rotate_left
    · exact absurd (by decide) c545
    refine zk_iconst (v := 0) hX dL_law_552 (by decide) ?_
    refine zk_iload hX dL_law_553 rfl ?_
    rw [show zcnt (mQ (Dd false) (-1) v) (nT (Dd false)) = 0 from h0]
    refine zk_if_le (tgt := 562) hX dL_law_555 (by decide) (fun c555 => ?_) (fun c555 => ?_)
    rotate_left
    · exact absurd (by decide) c555
    refine zk_iconst (v := 0) hX dL_law_562 (by decide) ?_
    refine zk_icmp_eq (tgt := 568) hX dL_law_563 (by decide) (fun c563 => ?_) (fun c563 => ?_)
    rotate_left
    · exact absurd rfl c563
    have h9 := K W2 hI2
    rw [hz] at h9
    rw [show hld Dd v = 0 from h0] at h9
    exact h9
  · obtain ⟨g1, g2, g3⟩ := near_b hz
    refine zk_aload_n hX dL_law_513 rfl ?_
    refine zl_callO (M' := mX11_many) (As := []) (b := false) hX hu hn2 dL_law_514 kcX11_many mlL_84 viX11_many rfl (o_many (hI false).1) rfl rfl rfl (Nat.le_of_ble_eq_true rfl) rfl ⟨Nat.le_of_ble_eq_true rfl, Nat.le_of_ble_eq_true hsl⟩ (fun r W1 z1 q => ?_)
    obtain ⟨rfl, q1⟩ := q
    have hI1 := LI_c hI z1 (by rw [q1]; exact Sc_1)
    refine zk_istore (lo' := [_, _, _, _, _, _, _, _, _, _, _, _, _, _, _, _, _, _, _, _]) hX dL_law_517 (Nat.le_of_ble_eq_true rfl) rfl rfl ?_
    refine zk_aload_n hX dL_law_519 rfl ?_
    refine zk_iconst (v := 0) hX dL_law_520 (by decide) ?_
    refine zk_iconst (v := 2) hX dL_law_521 (by decide) ?_
    refine zl_callO (M' := mX11_nearest) (As := [_, _]) (b := false) hX hu hn2 dL_law_522 kcX11_nearest mlL_87 viX11_nearest rfl (o_near (k := 0) (r := 2) (hI1 false).1 (by decide) (hI1 false).1.2.2.2.2.2.2.1 (hI1 false).1.2.2.2.2.2.2.2 (Or.inl rfl)) rfl rfl rfl (Nat.le_of_ble_eq_true rfl) rfl ⟨Nat.le_of_ble_eq_true rfl, Nat.le_of_ble_eq_true hsl⟩ (fun r W2 z2 q => ?_)
    obtain ⟨rfl, q2⟩ := q
    have hI2 := LI_c hI1 z2 (S5_c q2)
    refine zk_istore (lo' := [_, _, _, _, _, _, _, _, _, _, _, _, _, _, _, _, _, _, _, _]) hX dL_law_525 (Nat.le_of_ble_eq_true rfl) rfl rfl ?_
    refine zk_iload hX dL_law_527 rfl ?_
    rw [show zmn (mQ (Dd false) (-1) v) (mF (Dd false) (-1) 1 3 3 (Mm false) (Yy false)) (nT (Dd false)) = some m from hz]
    refine zk_if_lt (tgt := 543) hX dL_law_529 (by decide) (fun c529 => ?_) (fun c529 => ?_)
    · exact absurd c529 (zoe_n (by omega))
    refine zk_iload hX dL_law_532 rfl ?_
    refine zk_aload_n hX dL_law_534 rfl ?_
    refine zk_iconst (v := 0) hX dL_law_535 (by decide) ?_
    refine zk_iconst (v := 3) hX dL_law_536 (by decide) ?_
    refine zl_callO (M' := mX11_never) (As := [_, _]) (b := false) hX hu hn2 dL_law_537 kcX11_never mlL_90 viX11_never rfl (o_never (hI2 false).1) rfl rfl rfl (Nat.le_of_ble_eq_true rfl) rfl ⟨Nat.le_of_ble_eq_true rfl, Nat.le_of_ble_eq_true hsl⟩ (fun r W3 z3 q => ?_)
    obtain ⟨rfl, q3⟩ := q
    have hI3 := LI_c hI2 z3 (S5_c q3)
    refine zk_icmp_lt (tgt := 566) hX dL_law_540 (by decide) (fun c540 => ?_) (fun c540 => ?_)
    · exact absurd c540 (nI_nlt g1 (by omega))
    refine zk_iload hX dL_law_543 rfl ?_
    refine zk_if_lt (tgt := 552) hX dL_law_545 (by decide) (fun c545 => ?_) (fun c545 => ?_)
    · exact absurd c545 (zoe_n (by omega))
    refine zk_iconst (v := 1) hX dL_law_548 (by decide) ?_
    refine zk_goto (tgt := 553) hX dL_law_549 (by decide) ?_
    refine zk_iload hX dL_law_553 rfl ?_
    refine zk_if_le (tgt := 562) hX dL_law_555 (by decide) (fun c555 => ?_) (fun c555 => ?_)
    · exact absurd c555 (fun q => absurd (nI_lt (a := 0) g3 (by omega)) (Int32.not_lt.mpr q))
    refine zk_iconst (v := 1) hX dL_law_558 (by decide) ?_
    refine zk_goto (tgt := 563) hX dL_law_559 (by decide) ?_
    refine zk_icmp_eq (tgt := 568) hX dL_law_563 (by decide) (fun c563 => ?_) (fun c563 => ?_)
    rotate_left
    · exact absurd rfl c563
    have h9 := K W3 hI3
    rw [hz] at h9
    exact h9
theorem lw_stiff {v : Nat} {cs : Bool → Nat → Nat} {v15 : Value} (hX : zH G X mL_law) (hsl : Nat.ble sl 7302250 = true) (hL : LA Dd Mm Yy) (hA : aH (a1 332) (Dd false)) (K : ∀ Wd1 v14 v15, LI Dd Mm Yy v 0 cs Wd1 → zk G X mL_law 340 340 sl 644 (loA ++ [.int (nI (hld Dd v)), .int (nI v), .int (zoe (lst Dd Mm Yy v)), v14, v15, .null, .null, .null, .null]) [] (zcm Wd1 a1)) :
    ∀ z j Wd v15, j + z = dJ (Dd false) → LI Dd Mm Yy v 0 cs Wd → zk G X mL_law 340 340 sl 571 (loA ++ [.int (nI (hld Dd v)), .int (nI v), .int (zoe (lst Dd Mm Yy v)), .int (nI j), v15, .null, .null, .null, .null]) [] (zcm Wd a1) := by
  have hn : zLn 340 := Or.inr rfl
  have hu := zLn_u hn
  have hn2 := zLn_2 hn
  obtain ⟨hM, hm, hy, hJ⟩ := hL
  intro z
  induction z with
  | zero =>
    intro j Wd v15 hj hI
    obtain rfl : j = dJ (Dd false) := by omega
    refine zk_iload hX dL_law_571 rfl ?_
    refine zk_aload_n hX dL_law_573 rfl ?_
    refine zk_iconst (v := 4) hX dL_law_574 (by decide) ?_
    refine zl_ialdE hX dL_law_575 (nI_k 4 rfl) (ar_332 hn) (by first | assumption | omega) ?_
    rw [hA.1.2.2]
    refine zk_icmp_ge (tgt := 644) hX dL_law_576 (by decide) (fun c576 => ?_) (fun c576 => ?_)
    rotate_left
    · exact absurd (nI_le (Nat.le_refl _) (by omega)) c576
    exact K _ _ _ hI
  | succ z ih =>
    intro j Wd v15 hj hI
    have hD := (hI false).1.2.1.1
    have hD' := (hI true).1.2.1.1
    have hj2 : j < dJ (Dd false) := by omega
    have hj3 : j < dJ (Dd true) := by rw [hM.1.2.2]; exact hj2
    have eT := m_stiff (T := v) (j := j) hD hD' hM hm hy hj2
    have eN := m_near (T := v) hD hM hm hy
    have next : ∀ Wd1 v15, LI Dd Mm Yy v 0 cs Wd1 → zk G X mL_law 340 340 sl 638 (loA ++ [.int (nI (hld Dd v)), .int (nI v), .int (zoe (lst Dd Mm Yy v)), .int (nI j), v15, .null, .null, .null, .null]) [] (zcm Wd1 a1) := by
      intro Wd1 v15 h1
      have h0 := ih (j + 1) Wd1 v15 (by omega) h1
      refine zk_iinc (lo' := [_, _, _, _, _, _, _, _, _, _, _, _, _, _, _, _, _, _, _, _]) hX dL_law_638 rfl (by exact zinc _) (Nat.le_of_ble_eq_true rfl) rfl rfl ?_
      refine zk_goto (tgt := 571) hX dL_law_641 (by decide) ?_
      exact h0
    rcases hz : zmn (rHs (Dd false) v j) (mF (Dd false) (-1) 1 3 3 (Mm false) (Yy false)) (nT (Dd false)) with _ | a
    · refine zk_iload hX dL_law_571 rfl ?_
      refine zk_aload_n hX dL_law_573 rfl ?_
      refine zk_iconst (v := 4) hX dL_law_574 (by decide) ?_
      refine zl_ialdE hX dL_law_575 (nI_k 4 rfl) (ar_332 hn) (by first | assumption | omega) ?_
      rw [hA.1.2.2]
      refine zk_icmp_ge (tgt := 644) hX dL_law_576 (by decide) (fun c576 => ?_) (fun c576 => ?_)
      · exact absurd c576 (nI_ge hj2 (by omega))
      refine zk_aload_n hX dL_law_579 rfl ?_
      refine zk_iload hX dL_law_580 rfl ?_
      refine zk_iconst (v := 0) hX dL_law_582 (by decide) ?_
      refine zl_callO (M' := mX11_stiff) (As := [_, _]) (b := false) hX hu hn2 dL_law_583 kcX11_stiff mlL_93 viX11_stiff rfl (o_stiff (hI false).1 hj2) rfl rfl rfl (Nat.le_of_ble_eq_true rfl) rfl ⟨Nat.le_of_ble_eq_true rfl, Nat.le_of_ble_eq_true hsl⟩ (fun r W1 z1 q => ?_)
      obtain ⟨rfl, q1, q2⟩ := q
      have hI1 := LI_c hI z1 (S5_c q1)
      refine zk_istore (lo' := [_, _, _, _, _, _, _, _, _, _, _, _, _, _, _, _, _, _, _, _]) hX dL_law_586 (Nat.le_of_ble_eq_true rfl) rfl rfl ?_
      refine zk_iload hX dL_law_588 rfl ?_
      refine zk_aload_n hX dL_law_590 rfl ?_
      refine zk_iload hX dL_law_591 rfl ?_
      refine zk_iconst (v := 0) hX dL_law_593 (by decide) ?_
      refine zl_callO (M' := mX11_stiff) (As := [_, _]) (b := true) hX hu hn2 dL_law_594 kcX11_stiff mlL_93 viX11_stiff rfl (o_stiff (hI1 true).1 hj3) rfl rfl rfl (Nat.le_of_ble_eq_true rfl) rfl ⟨Nat.le_of_ble_eq_true rfl, Nat.le_of_ble_eq_true hsl⟩ (fun r W2 z2 q => ?_)
      obtain ⟨rfl, q3, q4⟩ := q
      have hI2 := LI_c hI1 z2 (S5_c q3)
      have e0 : ∀ y, zsr1 (zoe none) y = -9 := fun y => if_pos rfl
      rw [eT, eN, hz, e0]
      refine zk_icmp_ne (tgt := 636) hX dL_law_597 (by decide) (fun c597 => ?_) (fun c597 => ?_)
      · exact absurd rfl c597
      refine zk_iload hX dL_law_600 rfl ?_
      refine zk_if_lt (tgt := 617) hX dL_law_602 (by decide) (fun c602 => ?_) (fun c602 => ?_)
      rotate_left
      · exact absurd (by decide) c602
      refine zk_iload hX dL_law_617 rfl ?_
      refine zk_bipush (v := -9) hX dL_law_619 (by decide) ?_
      refine zk_icmp_lt (tgt := 636) hX dL_law_621 (by decide) (fun c621 => ?_) (fun c621 => ?_)
      · exact absurd c621 (by decide)
      refine zk_iload hX dL_law_624 rfl ?_
      refine zk_bipush (v := -9) hX dL_law_626 (by decide) ?_
      refine zk_icmp_le (tgt := 638) hX dL_law_628 (by decide) (fun c628 => ?_) (fun c628 => ?_)
      rotate_left
      · exact absurd (by decide) c628
      exact next W2 _ hI2
    · obtain ⟨a9, b, b1, b2⟩ := stiff_b hD hz
      have hz2 : lst Dd Mm Yy v = some b := b1
      have e1 : zsr1 (zoe (some a)) (zoe (some b)) = nI (a - b) := by
        show (if nI a = -9 then _ else nI a - nI b) = _
        rw [if_neg (fun q => absurd (show (0 : Int32) ≤ nI a from nI_pos' (by omega)) (by rw [q]; decide)), nI_subE b2 rfl rfl]
      have e2 : ∀ x, zsr2 (zoe (some a)) x = nI a := fun x => by
        show (if nI a = -9 then _ else nI a) = _
        exact if_neg (fun q => absurd (show (0 : Int32) ≤ nI a from nI_pos' (by omega)) (by rw [q]; decide))
      have e3 : nI (a - b) + nI b = nI a := by
        rw [nI_add, Nat.sub_add_cancel b2]
      rw [hz2] at next ⊢
      refine zk_iload hX dL_law_571 rfl ?_
      refine zk_aload_n hX dL_law_573 rfl ?_
      refine zk_iconst (v := 4) hX dL_law_574 (by decide) ?_
      refine zl_ialdE hX dL_law_575 (nI_k 4 rfl) (ar_332 hn) (by first | assumption | omega) ?_
      rw [hA.1.2.2]
      refine zk_icmp_ge (tgt := 644) hX dL_law_576 (by decide) (fun c576 => ?_) (fun c576 => ?_)
      · exact absurd c576 (nI_ge hj2 (by omega))
      refine zk_aload_n hX dL_law_579 rfl ?_
      refine zk_iload hX dL_law_580 rfl ?_
      refine zk_iconst (v := 0) hX dL_law_582 (by decide) ?_
      refine zl_callO (M' := mX11_stiff) (As := [_, _]) (b := false) hX hu hn2 dL_law_583 kcX11_stiff mlL_93 viX11_stiff rfl (o_stiff (hI false).1 hj2) rfl rfl rfl (Nat.le_of_ble_eq_true rfl) rfl ⟨Nat.le_of_ble_eq_true rfl, Nat.le_of_ble_eq_true hsl⟩ (fun r W1 z1 q => ?_)
      obtain ⟨rfl, q1, q2⟩ := q
      have hI1 := LI_c hI z1 (S5_c q1)
      rw [hz, e2] at q2
      refine zk_istore (lo' := [_, _, _, _, _, _, _, _, _, _, _, _, _, _, _, _, _, _, _, _]) hX dL_law_586 (Nat.le_of_ble_eq_true rfl) rfl rfl ?_
      refine zk_iload hX dL_law_588 rfl ?_
      refine zk_aload_n hX dL_law_590 rfl ?_
      refine zk_iload hX dL_law_591 rfl ?_
      refine zk_iconst (v := 0) hX dL_law_593 (by decide) ?_
      refine zl_callO (M' := mX11_stiff) (As := [_, _]) (b := true) hX hu hn2 dL_law_594 kcX11_stiff mlL_93 viX11_stiff rfl (o_stiff (hI1 true).1 hj3) rfl rfl rfl (Nat.le_of_ble_eq_true rfl) rfl ⟨Nat.le_of_ble_eq_true rfl, Nat.le_of_ble_eq_true hsl⟩ (fun r W2 z2 q => ?_)
      obtain ⟨rfl, q3, q4⟩ := q
      have hI2 := LI_c hI1 z2 (S5_c q3)
      rw [eT, eN, hz, b1, e1]
      have t2 : (W2 false).1 1 0 = nI a := by rw [z2 false (by decide)]; exact q2
      refine zk_icmp_ne (tgt := 636) hX dL_law_597 (by decide) (fun c597 => ?_) (fun c597 => ?_)
      · exact absurd rfl c597
      refine zk_iload hX dL_law_600 rfl ?_
      refine zk_if_lt (tgt := 617) hX dL_law_602 (by decide) (fun c602 => ?_) (fun c602 => ?_)
      · exact absurd c602 (zoe_n (by omega))
      refine zk_aload_n hX dL_law_605 rfl ?_
      refine zl_callO (M' := mX11_asked) (As := []) (b := false) hX hu hn2 dL_law_606 kcX11_asked mlL_56 viX11_asked rfl (o_asked (hI2 false).1.1) rfl rfl rfl (Nat.le_of_ble_eq_true rfl) rfl ⟨Nat.le_of_ble_eq_true rfl, Nat.le_of_ble_eq_true hsl⟩ (fun r W3 z3 q => ?_)
      obtain ⟨rfl, q5⟩ := q
      have hI3 := LI_c hI2 z3 (by rw [q5]; exact Sc_r _)
      rw [t2]
      refine zk_iload hX dL_law_609 rfl ?_
      refine zk_iload hX dL_law_611 rfl ?_
      refine zk_iadd hX dL_law_613 ?_
      rw [show zoe (some b) = nI b from rfl, e3]
      refine zk_icmp_ne (tgt := 636) hX dL_law_614 (by decide) (fun c614 => ?_) (fun c614 => ?_)
      · exact absurd rfl c614
      refine zk_iload hX dL_law_617 rfl ?_
      refine zk_bipush (v := -9) hX dL_law_619 (by decide) ?_
      refine zk_icmp_lt (tgt := 636) hX dL_law_621 (by decide) (fun c621 => ?_) (fun c621 => ?_)
      · exact absurd c621 (fun q => absurd (Int32.lt_of_lt_of_le q (show (-9 : Int32) ≤ 0 from by decide)) (zoe_n (by omega)))
      refine zk_iload hX dL_law_624 rfl ?_
      refine zk_bipush (v := -9) hX dL_law_626 (by decide) ?_
      refine zk_icmp_le (tgt := 638) hX dL_law_628 (by decide) (fun c628 => ?_) (fun c628 => ?_)
      · exact absurd c628 (fun q => absurd (Int32.le_trans (nI_pos' (n := a - b) (by omega)) q) (by decide))
      refine zk_iload hX dL_law_631 rfl ?_
      refine zk_if_ge (tgt := 638) hX dL_law_633 (by decide) (fun c633 => ?_) (fun c633 => ?_)
      rotate_left
      · exact absurd (nI_pos' (by omega)) c633
      exact next W3 _ hI3
/-- eight strains -/
theorem lw_eight (hX : zH G X mL_law) (hsl : Nat.ble sl 7302250 = true) (hL : LA Dd Mm Yy) (hA : aH (a1 332) (Dd false)) {cs : Bool → Nat → Nat} (K : ∀ Wd1 v11 v12 v13 v14 v15, LI Dd Mm Yy 7 0 cs Wd1 → zk G X mL_law 340 340 sl 650 (loA ++ [v11, v12, v13, v14, v15, .null, .null, .null, .null]) [] (zcm Wd1 a1)) :
    ∀ Wd v11, LI Dd Mm Yy 99 0 cs Wd → zk G X mL_law 340 340 sl 422 (loA ++ [v11, .null, .null, .null, .null, .null, .null, .null, .null]) [] (zcm Wd a1) := by
  have hn : zLn 340 := Or.inr rfl
  have hu := zLn_u hn
  have hn2 := zLn_2 hn
  have loop : ∀ z v T bf Wd v13 v14 v15, v + z = 8 → (z = 0 → T = 7) → (v < 8 → bf ≤ hld Dd v) → LI Dd Mm Yy T 0 cs Wd → zk G X mL_law 340 340 sl 428 (loA ++ [.int (nI bf), .int (nI v), v13, v14, v15, .null, .null, .null, .null]) [] (zcm Wd a1) := by
    intro z
    induction z with
    | zero =>
      intro v T bf Wd v13 v14 v15 hv hT hb hI
      obtain rfl : v = 8 := by omega
      obtain rfl := hT rfl
      refine zk_iload hX dL_law_428 rfl ?_
      refine zk_bipush (v := 8) hX dL_law_430 (by decide) ?_
      refine zk_icmp_ge (tgt := 650) hX dL_law_432 (by decide) (fun c432 => ?_) (fun c432 => ?_)
      rotate_left
      · exact absurd (by decide) c432
      exact K _ _ _ _ _ _ hI
    | succ z ih =>
      intro v T bf Wd v13 v14 v15 hv hT hb hI
      refine lw_ask hX hsl hL hI (by omega) (hb (by omega)) (fun W1 h1 => ?_)
      refine lw_least hX hsl h1 (fun W2 h2 => ?_)
      have fin : ∀ Wd1 v14 v15, LI Dd Mm Yy v 0 cs Wd1 → zk G X mL_law 340 340 sl 644 (loA ++ [.int (nI (hld Dd v)), .int (nI v), .int (zoe (lst Dd Mm Yy v)), v14, v15, .null, .null, .null, .null]) [] (zcm Wd1 a1) := by
        intro Wd1 v14 v15 h3
        have h0 := ih (v + 1) v (hld Dd v) Wd1 (.int (zoe (lst Dd Mm Yy v))) v14 v15 (by omega) (fun hz => by omega) (fun _ => many_mono (by omega)) h3
        refine zk_iinc (lo' := [_, _, _, _, _, _, _, _, _, _, _, _, _, _, _, _, _, _, _, _]) hX dL_law_644 rfl (by exact zinc _) (Nat.le_of_ble_eq_true rfl) rfl rfl ?_
        refine zk_goto (tgt := 428) hX dL_law_647 (by decide) ?_
        exact h0
      have h4 := lw_stiff (v15 := .null) hX hsl hL hA fin (dJ (Dd false)) 0 W2 v15 (by omega) h2
      refine zk_iconst (v := 0) hX dL_law_568 (by decide) ?_
      refine zk_istore (lo' := [_, _, _, _, _, _, _, _, _, _, _, _, _, _, _, _, _, _, _, _]) hX dL_law_569 (Nat.le_of_ble_eq_true rfl) rfl rfl ?_
      exact h4
  intro Wd v11 hI
  refine zk_iconst (v := 0) hX dL_law_422 (by decide) ?_
  refine zk_istore (lo' := [_, _, _, _, _, _, _, _, _, _, _, _, _, _, _, _, _, _, _, _]) hX dL_law_423 (Nat.le_of_ble_eq_true rfl) rfl rfl ?_
  refine zk_iconst (v := 0) hX dL_law_425 (by decide) ?_
  refine zk_istore (lo' := [_, _, _, _, _, _, _, _, _, _, _, _, _, _, _, _, _, _, _, _]) hX dL_law_426 (Nat.le_of_ble_eq_true rfl) rfl rfl ?_
  exact loop 8 0 99 0 Wd _ _ _ (by omega) (fun h => absurd h (by decide)) (fun _ => Nat.zero_le _) hI
end LAW
