/-- to know less of the locals -/
def zles : List Value → List Value → Prop
  | [], _ => True
  | a :: r, b :: s => (a = .null ∨ a = b) ∧ zles r s
  | _ :: _, [] => False
theorem zles_i : ∀ {l l' : List Value}, zles l' l → ∀ (k : Nat) (v : Value), l'[k]? = some v → v ≠ .null → l[k]? = some v
  | l, [], _, k, v, h, _ => by simp at h
  | [], a :: r, h, _, _, _, _ => h.elim
  | b :: s, a :: r, h, 0, v, h1, h2 => by
    simp at h1
    subst h1
    rcases h.1 with e | e
    · exact absurd e h2
    · simp [e]
  | b :: s, a :: r, h, k + 1, v, h1, h2 => by
    rw [List.getElem?_cons_succ] at h1 ⊢
    exact zles_i h.2 k v h1 h2
theorem zk_fg {G : zG} {X : zX} {M : zM} {n cells slots pc : Nat} {lo lo' st : List Value} {w : zW} (h : zles lo' lo) (k : zk G X M n cells slots pc lo' st w) : zk G X M n cells slots pc lo st w := zk_lo (zles_i h) k
section LAW
variable {G : zG} {X : zX} {sl : Nat} {Dd : Bool → zD} {Mm Yy : Bool → zS} {a1 : zA3}
abbrev cS (Dd : Bool → zD) (c : Nat) : zS := mS (Dd false) (-1) 1 3 3 c
abbrev cS' (Dd : Bool → zD) (c : Nat) : zS := mS (Dd true) (-1) 1 3 3 (nT (Dd false) - 1 - c)
/-- its shadow, by how much it is off, its kind -/
theorem lw_shape {t c : Nat} {cs : Bool → Nat → Nat} {Wd : Bool → zW} {v11 v12 v14 v15 v16 v17 : Value} (hX : zH G X mL_law) (hsl : Nat.ble sl 7302250 = true) (hL : LA Dd Mm Yy) (ht : t < 5) (hc : c < nT (Dd false)) (hI : LI Dd Mm Yy 7 (t + 1) (cN cs (nT (Dd false)) t c) Wd)
    (K : ∀ Wd1, LI Dd Mm Yy 7 (t + 1) (cN cs (nT (Dd false)) t c) Wd1 → R5 (Wd1 false) (cS Dd c) → R5 (Wd1 true) (cS' Dd c) → zk G X mL_law 340 340 sl 863 (loA ++ [v11, v12, .int (nI t), .int (nI (zcard (cS Dd c))), v15, v16, v17, .null, .null]) [] (zcm Wd1 a1)) :
    zk G X mL_law 340 340 sl 798 (loA ++ [v11, v12, .int (nI t), v14, v15, v16, v17, .null, .null]) [] (zcm Wd a1) := by
  have hn : zLn 340 := Or.inr rfl
  have hu := zLn_u hn
  have hn2 := zLn_2 hn
  obtain ⟨hM, hm, hy, hJ⟩ := hL
  have hD := (hI false).1.2.1.1
  have ef : cN cs (nT (Dd false)) t c false t = c := if_pos rfl
  have et : cN cs (nT (Dd false)) t c true t = nT (Dd false) - 1 - c := if_pos rfl
  have ek := kd_g (T := 7) hD hM hc
  have eC := card_g hD hM hc
  have eO := off_g hD hM hm hy hc
  have hp := Nat.lt_succ_self t
  refine zk_aload_n hX dL_law_798 rfl ?_
  refine zk_iload hX dL_law_799 rfl ?_
  refine zk_iconst (v := 5) hX dL_law_801 (by decide) ?_
  refine zl_callO (M' := mX11_shape) (As := [_, _]) (b := false) hX hu hn2 dL_law_802 kcX11_shape mlL_114 viX11_shape rfl (o_shape (p := t) (hI false).1.1 (hI false).2 hp) rfl rfl rfl (Nat.le_of_ble_eq_true rfl) rfl ⟨Nat.le_of_ble_eq_true rfl, Nat.le_of_ble_eq_true hsl⟩ (fun x W1 z1 q => ?_)
  obtain ⟨rfl, q1, q2⟩ := q
  have hI1 := LI_c hI z1 q1
  rw [ef] at q2 ⊢
  refine zk_istore (lo' := [_, _, _, _, _, _, _, _, _, _, _, _, _, _, _, _, _, _, _, _]) hX dL_law_805 (Nat.le_of_ble_eq_true rfl) rfl rfl ?_
  refine zk_iload hX dL_law_807 rfl ?_
  refine zk_aload_n hX dL_law_809 rfl ?_
  refine zk_iload hX dL_law_810 rfl ?_
  refine zk_iconst (v := 5) hX dL_law_812 (by decide) ?_
  refine zl_callO (M' := mX11_shape) (As := [_, _]) (b := true) hX hu hn2 dL_law_813 kcX11_shape mlL_114 viX11_shape rfl (o_shape (p := t) (hI1 true).1.1 (hI1 true).2 hp) rfl rfl rfl (Nat.le_of_ble_eq_true rfl) rfl ⟨Nat.le_of_ble_eq_true rfl, Nat.le_of_ble_eq_true hsl⟩ (fun x W2 z2 q => ?_)
  obtain ⟨rfl, p1, p2⟩ := q
  have hI2 := LI_c hI1 z2 p1
  rw [et] at p2 ⊢
  have R2 : R5 (W2 false) (cS Dd c) := by rw [z2 false (by decide)]; exact q2
  refine zk_icmp_ne (tgt := 861) hX dL_law_816 (by decide) (fun c816 => ?_) (fun c816 => ?_)
  · exact absurd (congrArg nI eC.symm) c816
  refine zk_aload_n hX dL_law_819 rfl ?_
  refine zk_iload hX dL_law_820 rfl ?_
  refine zk_iconst (v := 0) hX dL_law_822 (by decide) ?_
  refine zl_callO (M' := mX11_off) (As := [_, _]) (b := false) hX hu hn2 dL_law_823 kcX11_off mlL_117 viX11_off rfl (o_off (p := t) (k := 0) (hI2 false).1 (hI2 false).2 hp (by decide) (hI2 false).1.2.2.2.2.2.2.1 (hI2 false).1.2.2.2.2.2.2.2) rfl rfl rfl (Nat.le_of_ble_eq_true rfl) rfl ⟨Nat.le_of_ble_eq_true rfl, Nat.le_of_ble_eq_true hsl⟩ (fun x W3 z3 q => ?_)
  obtain ⟨rfl, r1⟩ := q
  have hI3 := LI_c hI2 z3 (S5_c r1)
  rw [ef]
  have R3 := R5_f R2 r1
  have Q3 : R5 (W3 true) (cS' Dd c) := by rw [z3 true (by decide)]; exact p2
  refine zk_aload_n hX dL_law_826 rfl ?_
  refine zk_iload hX dL_law_827 rfl ?_
  refine zk_iconst (v := 0) hX dL_law_829 (by decide) ?_
  refine zl_callO (M' := mX11_off) (As := [_, _]) (b := true) hX hu hn2 dL_law_830 kcX11_off mlL_117 viX11_off rfl (o_off (p := t) (k := 0) (hI3 true).1 (hI3 true).2 hp (by decide) (hI3 true).1.2.2.2.2.2.2.1 (hI3 true).1.2.2.2.2.2.2.2) rfl rfl rfl (Nat.le_of_ble_eq_true rfl) rfl ⟨Nat.le_of_ble_eq_true rfl, Nat.le_of_ble_eq_true hsl⟩ (fun x W4 z4 q => ?_)
  obtain ⟨rfl, s1⟩ := q
  have hI4 := LI_c hI3 z4 (S5_c s1)
  rw [et]
  have Q4 := R5_f Q3 s1
  have R4 : R5 (W4 false) (cS Dd c) := by rw [z4 false (by decide)]; exact R3
  refine zk_icmp_ne (tgt := 861) hX dL_law_833 (by decide) (fun c833 => ?_) (fun c833 => ?_)
  · exact absurd (congrArg nI eO.symm) c833
  refine zk_aload_n hX dL_law_836 rfl ?_
  refine zk_aload_n hX dL_law_837 rfl ?_
  refine zk_iload hX dL_law_838 rfl ?_
  refine zk_iconst (v := 0) hX dL_law_840 (by decide) ?_
  refine zl_callO (M' := mX11_about) (As := [_, _]) (b := false) hX hu hn2 dL_law_841 kcX11_about mlL_107 viX11_about rfl (o_about (p := t) (k := 0) (hI4 false).1.1 (hI4 false).2 hp (by decide)) rfl rfl rfl (Nat.le_of_ble_eq_true rfl) rfl ⟨Nat.le_of_ble_eq_true rfl, Nat.le_of_ble_eq_true hsl⟩ (fun x W5 z5 q => ?_)
  obtain ⟨rfl, q5⟩ := q
  have hI5 := LI_c hI4 z5 (by rw [q5]; exact Sc_1)
  have t5 : (W5 false).1 1 0 = zkd (Dd false) (zcode_t (Dd false) c) (-1) 7 := by { rw [q5, zsi_1, if_pos ⟨rfl, rfl⟩, if_pos rfl, ef] }
  have R6 : R5 (W5 false) (cS Dd c) := by { rw [q5]; exact R5_1 R4 }
  have Q6 : R5 (W5 true) (cS' Dd c) := by { rw [z5 true (by decide)]; exact Q4 }
  refine zl_callS (M' := mL_tells) (As := [_, _]) hX dL_law_844 kcL_tells mlL_110 smL_tells rfl (s_L_tells (b := false) (x := 1) hn (hI5 false).1.1) rfl rfl (Nat.le_of_ble_eq_true rfl) rfl ⟨Nat.le_of_ble_eq_true rfl, Nat.le_of_ble_eq_true hsl⟩ (fun x W6 a2 q => ?_)
  obtain ⟨⟨rfl, rfl⟩, rfl⟩ := q
  refine zk_aload_n hX dL_law_847 rfl ?_
  refine zk_aload_n hX dL_law_848 rfl ?_
  refine zk_iload hX dL_law_849 rfl ?_
  refine zk_iconst (v := 0) hX dL_law_851 (by decide) ?_
  refine zl_callO (M' := mX11_about) (As := [_, _]) (b := true) hX hu hn2 dL_law_852 kcX11_about mlL_107 viX11_about rfl (o_about (p := t) (k := 0) (hI5 true).1.1 (hI5 true).2 hp (by decide)) rfl rfl rfl (Nat.le_of_ble_eq_true rfl) rfl ⟨Nat.le_of_ble_eq_true rfl, Nat.le_of_ble_eq_true hsl⟩ (fun x W7 z7 q => ?_)
  obtain ⟨rfl, q7⟩ := q
  have hI7 := LI_c hI5 z7 (by rw [q7]; exact Sc_1)
  have t7 : (W7 true).1 1 0 = zkd (Dd true) (zcode_t (Dd true) (nT (Dd false) - 1 - c)) (-1) 7 := by { rw [q7, zsi_1, if_pos ⟨rfl, rfl⟩, if_pos rfl, et] }
  have Q7 : R5 (W7 true) (cS' Dd c) := by { rw [q7]; exact R5_1 Q6 }
  have R7 : R5 (W7 false) (cS Dd c) := by { rw [z7 false (by decide)]; exact R6 }
  refine zl_callS (M' := mL_tells) (As := [_, _]) hX dL_law_855 kcL_tells mlL_110 smL_tells rfl (s_L_tells (b := true) (x := 1) hn (hI7 true).1.1) rfl rfl (Nat.le_of_ble_eq_true rfl) rfl ⟨Nat.le_of_ble_eq_true rfl, Nat.le_of_ble_eq_true hsl⟩ (fun x W8 a2 q => ?_)
  obtain ⟨⟨rfl, rfl⟩, rfl⟩ := q
  refine zk_icmp_eq (tgt := 863) hX dL_law_858 (by decide) (fun c858 => ?_) (fun c858 => ?_)
  rotate_left
  · exact absurd (by rw [if_pos rfl, if_pos rfl, t5, t7, ek]) c858
  exact K W8 hI7 R7 Q7
/-- the shadow's rows, in the glass -/
theorem lw_lines {t c : Nat} {cs : Bool → Nat → Nat} {v12 : Value} {x14 : Int32} (hX : zH G X mL_law) (hsl : Nat.ble sl 7302250 = true) (hD : zDok (Dd false)) (hM : zMir (Dd false) (Dd true)) (hc : c < nT (Dd false))
    (K : ∀ Wd1, LI Dd Mm Yy 7 (t + 1) cs Wd1 → R5 (Wd1 false) (cS Dd c) → zk G X mL_law 340 340 sl 938 (loA ++ [.null, v12, .int (nI t), .int x14, .null, .null, .null, .null, .null]) [] (zcm Wd1 a1)) :
    ∀ z y Wd, y + z = 10 → LI Dd Mm Yy 7 (t + 1) cs Wd → R5 (Wd false) (cS Dd c) → R5 (Wd true) (cS' Dd c) → zk G X mL_law 340 340 sl 866 (loA ++ [.null, v12, .int (nI t), .int x14, .int (nI y), .null, .null, .null, .null]) [] (zcm Wd a1) := by
  have hn : zLn 340 := Or.inr rfl
  have hu := zLn_u hn
  have hn2 := zLn_2 hn
  intro z
  induction z with
  | zero =>
    intro y Wd hy hI hR hQ
    obtain rfl : y = 10 := by omega
    refine zk_iload hX dL_law_866 rfl ?_
    refine zk_bipush (v := 10) hX dL_law_868 (by decide) ?_
    refine zk_icmp_ge (tgt := 938) hX dL_law_870 (by decide) (fun c870 => ?_) (fun c870 => ?_)
    rotate_left
    · exact absurd (by decide) c870
    exact zk_fg (lo' := loA ++ [.null, v12, .int (nI t), .int x14, .null, .null, .null, .null, .null]) (by repeat (first | exact trivial | refine ⟨Or.inr rfl, ?_⟩ | refine ⟨Or.inl rfl, ?_⟩)) (K _ hI hR)
  | succ z ih =>
    intro y Wd hy hI hR hQ
    have hy9 : y < 10 := by omega
    have h1 := zline_lt (cS Dd c) y
    have eL := lineS_g (y := y) hD hM hc
    refine zk_iload hX dL_law_866 rfl ?_
    refine zk_bipush (v := 10) hX dL_law_868 (by decide) ?_
    refine zk_icmp_ge (tgt := 938) hX dL_law_870 (by decide) (fun c870 => ?_) (fun c870 => ?_)
    · exact absurd c870 (nI_ge (b := 10) hy9 (by decide))
    refine zk_aload_n hX dL_law_873 rfl ?_
    refine zk_iconst (v := 5) hX dL_law_874 (by decide) ?_
    refine zk_iload hX dL_law_875 rfl ?_
    refine zl_callO (M' := mX11_at) (As := [_, _]) (b := false) hX hu hn2 dL_law_877 kcX11_at mlL_53 viX11_at rfl (o_at (hI false).1.1 hR hy9) rfl rfl rfl (Nat.le_of_ble_eq_true rfl) rfl ⟨Nat.le_of_ble_eq_true rfl, Nat.le_of_ble_eq_true hsl⟩ (fun x W1 z1 q => ?_)
    obtain ⟨rfl, q1⟩ := q
    have hI1 := LI_c hI z1 (by rw [q1]; exact Sc_1)
    have R1 : R5 (W1 false) (cS Dd c) := by { rw [q1]; exact R5_1 hR }
    have Q1 : R5 (W1 true) (cS' Dd c) := by { rw [z1 true (by decide)]; exact hQ }
    have t1 : (W1 false).1 1 0 = nI (zline (cS Dd c) y) := by rw [q1, zsi_1, if_pos ⟨rfl, rfl⟩]
    refine zk_iconst (v := 1) hX dL_law_880 (by decide) ?_
    refine zk_icmp_ne (tgt := 891) hX dL_law_881 (by decide) (fun c881 => ?_) (fun c881 => ?_)
    · exact absurd rfl c881
    refine zk_aload_n hX dL_law_884 rfl ?_
    refine zl_callO (M' := mX11_asked) (As := []) (b := false) hX hu hn2 dL_law_885 kcX11_asked mlL_56 viX11_asked rfl (o_asked (hI1 false).1.1) rfl rfl rfl (Nat.le_of_ble_eq_true rfl) rfl ⟨Nat.le_of_ble_eq_true rfl, Nat.le_of_ble_eq_true hsl⟩ (fun x W2 z2 q => ?_)
    obtain ⟨rfl, q2⟩ := q
    have hI2 := LI_c hI1 z2 (by rw [q2]; exact Sc_r _)
    have R2 : R5 (W2 false) (cS Dd c) := by { rw [q2]; exact R1 }
    have Q2 : R5 (W2 true) (cS' Dd c) := by { rw [z2 true (by decide)]; exact Q1 }
    rw [t1]
    refine zk_goto (tgt := 892) hX dL_law_888 (by decide) ?_
    refine zk_istore (lo' := [_, _, _, _, _, _, _, _, _, _, _, _, _, _, _, _, _, _, _, _]) hX dL_law_892 (Nat.le_of_ble_eq_true rfl) rfl rfl ?_
    refine zk_aload_n hX dL_law_894 rfl ?_
    refine zk_iconst (v := 5) hX dL_law_895 (by decide) ?_
    refine zk_iload hX dL_law_896 rfl ?_
    refine zl_callO (M' := mX11_at) (As := [_, _]) (b := true) hX hu hn2 dL_law_898 kcX11_at mlL_53 viX11_at rfl (o_at (hI2 true).1.1 Q2 hy9) rfl rfl rfl (Nat.le_of_ble_eq_true rfl) rfl ⟨Nat.le_of_ble_eq_true rfl, Nat.le_of_ble_eq_true hsl⟩ (fun x W3 z3 q => ?_)
    obtain ⟨rfl, q3⟩ := q
    have hI3 := LI_c hI2 z3 (by rw [q3]; exact Sc_1)
    have Q3 : R5 (W3 true) (cS' Dd c) := by { rw [q3]; exact R5_1 Q2 }
    have R3 : R5 (W3 false) (cS Dd c) := by { rw [z3 false (by decide)]; exact R2 }
    have t3 : (W3 true).1 1 0 = nI (zline (cS' Dd c) y) := by rw [q3, zsi_1, if_pos ⟨rfl, rfl⟩]
    refine zk_iconst (v := 1) hX dL_law_901 (by decide) ?_
    refine zk_icmp_ne (tgt := 912) hX dL_law_902 (by decide) (fun c902 => ?_) (fun c902 => ?_)
    · exact absurd rfl c902
    refine zk_aload_n hX dL_law_905 rfl ?_
    refine zl_callO (M' := mX11_asked) (As := []) (b := true) hX hu hn2 dL_law_906 kcX11_asked mlL_56 viX11_asked rfl (o_asked (hI3 true).1.1) rfl rfl rfl (Nat.le_of_ble_eq_true rfl) rfl ⟨Nat.le_of_ble_eq_true rfl, Nat.le_of_ble_eq_true hsl⟩ (fun x W4 z4 q => ?_)
    obtain ⟨rfl, q4⟩ := q
    have hI4 := LI_c hI3 z4 (by rw [q4]; exact Sc_r _)
    have Q4 : R5 (W4 true) (cS' Dd c) := by { rw [q4]; exact Q3 }
    have R4 : R5 (W4 false) (cS Dd c) := by { rw [z4 false (by decide)]; exact R3 }
    rw [t3]
    refine zk_goto (tgt := 913) hX dL_law_909 (by decide) ?_
    refine zk_istore (lo' := [_, _, _, _, _, _, _, _, _, _, _, _, _, _, _, _, _, _, _, _]) hX dL_law_913 (Nat.le_of_ble_eq_true rfl) rfl rfl ?_
    refine zk_iload hX dL_law_915 rfl ?_
    refine zk_if_lt (tgt := 930) hX dL_law_917 (by decide) (fun c917 => ?_) (fun c917 => ?_)
    · exact absurd c917 (zoe_n (by omega))
    refine zk_iload hX dL_law_920 rfl ?_
    refine zl_callS (M' := mL_glass) (As := [_]) hX dL_law_922 kcL_glass mlL_71 smL_glass rfl (s_L_glass) rfl rfl (Nat.le_of_ble_eq_true rfl) rfl ⟨Nat.le_of_ble_eq_true rfl, Nat.le_of_ble_eq_true hsl⟩ (fun x W5 a2 q => ?_)
    obtain ⟨⟨rfl, rfl⟩, rfl⟩ := q
    rw [zgl_I h1]
    refine zk_iload hX dL_law_925 rfl ?_
    refine zk_icmp_eq (tgt := 932) hX dL_law_927 (by decide) (fun c927 => ?_) (fun c927 => ?_)
    rotate_left
    · exact absurd (congrArg nI eL.symm) c927
    refine zk_iinc (lo' := [_, _, _, _, _, _, _, _, _, _, _, _, _, _, _, _, _, _, _, _]) hX dL_law_932 rfl (by exact zinc _) (Nat.le_of_ble_eq_true rfl) rfl rfl ?_
    refine zk_goto (tgt := 866) hX dL_law_935 (by decide) ?_
    exact zk_fg (lo' := loA ++ [.null, v12, .int (nI t), .int x14, .int (nI (y + 1)), .null, .null, .null, .null]) (by repeat (first | exact trivial | refine ⟨Or.inr rfl, ?_⟩ | refine ⟨Or.inl rfl, ?_⟩)) (ih (y + 1) _ (by omega) hI4 R4 Q4)
/-- what must hold where it is held -/
theorem lw_held {t c : Nat} {cs : Bool → Nat → Nat} {Wd : Bool → zW} {v11 v15 v16 v17 : Value} (hX : zH G X mL_law) (hsl : Nat.ble sl 7302250 = true) (ht : t < 5) (hc : c < nT (Dd false)) (ef : cs false t = c) (hI : LI Dd Mm Yy 7 (t + 1) cs Wd) (hR : R5 (Wd false) (cS Dd c))
    (K : ∀ Wd1, LI Dd Mm Yy 7 (t + 1) cs Wd1 → zk G X mL_law 340 340 sl 1051 (loA ++ [v11, .int (nI t), .int (nI t), .int (nI (zcard (cS Dd c))), v15, v16, v17, .null, .null]) [] (zcm Wd1 a1)) :
    zk G X mL_law 340 340 sl 938 (loA ++ [v11, .int (nI t), .int (nI t), .int (nI (zcard (cS Dd c))), v15, v16, v17, .null, .null]) [] (zcm Wd a1) := by
  have hn : zLn 340 := Or.inr rfl
  have hu := zLn_u hn
  have hn2 := zLn_2 hn
  have hD := (hI false).1.2.1.1
  have hp := Nat.lt_succ_self t
  have h0 := zofB_0 (zofl_line (cS Dd c))
  by_cases hk : zkd (Dd false) (zcode_t (Dd false) c) (-1) 7 = 1
  · have eN := near1_0 (T := 7) hc hk
    have hoff : zofB (Mm false) (Yy false) (mS (Dd false) (-1) 1 3 3 c) ≤ 240 := zofB_le _ _ _
    refine zk_aload_n hX dL_law_938 rfl ?_
    refine zk_aload_n hX dL_law_939 rfl ?_
    refine zk_iload hX dL_law_940 rfl ?_
    refine zk_iconst (v := 0) hX dL_law_942 (by decide) ?_
    refine zl_callO (M' := mX11_about) (As := [_, _]) (b := false) hX hu hn2 dL_law_943 kcX11_about mlL_107 viX11_about rfl (o_about (p := t) (k := 0) (hI false).1.1 (hI false).2 hp (by decide)) rfl rfl rfl (Nat.le_of_ble_eq_true rfl) rfl ⟨Nat.le_of_ble_eq_true rfl, Nat.le_of_ble_eq_true hsl⟩ (fun x W1 z1 q => ?_)
    obtain ⟨rfl, q1⟩ := q
    have hI1 := LI_c hI z1 (by rw [q1]; exact Sc_1)
    have t1 : (W1 false).1 1 0 = 1 := by { rw [q1, zsi_1, if_pos ⟨rfl, rfl⟩, if_pos rfl, ef]; exact hk }
    have R1 : R5 (W1 false) (cS Dd c) := by { rw [q1]; exact R5_1 hR }
    refine zl_callS (M' := mL_tells) (As := [_, _]) hX dL_law_946 kcL_tells mlL_110 smL_tells rfl (s_L_tells (b := false) (x := 1) hn (hI1 false).1.1) rfl rfl (Nat.le_of_ble_eq_true rfl) rfl ⟨Nat.le_of_ble_eq_true rfl, Nat.le_of_ble_eq_true hsl⟩ (fun x W2 a2 q => ?_)
    obtain ⟨⟨rfl, rfl⟩, rfl⟩ := q
    rw [if_pos rfl, t1]
    refine zk_iconst (v := 1) hX dL_law_949 (by decide) ?_
    refine zk_icmp_ne (tgt := 1051) hX dL_law_950 (by decide) (fun c950 => ?_) (fun c950 => ?_)
    · exact absurd rfl c950
    refine zk_aload_n hX dL_law_953 rfl ?_
    refine zk_iload hX dL_law_954 rfl ?_
    refine zk_iconst (v := 5) hX dL_law_956 (by decide) ?_
    refine zl_callO (M' := mX11_thrown) (As := [_, _]) (b := false) hX hu hn2 dL_law_957 kcX11_thrown mlL_120 viX11_thrown rfl (o_thrown (p := t) (hI1 false).1 (hI1 false).2 hp) rfl rfl rfl (Nat.le_of_ble_eq_true rfl) rfl ⟨Nat.le_of_ble_eq_true rfl, Nat.le_of_ble_eq_true hsl⟩ (fun x W3 z3 q => ?_)
    obtain ⟨rfl, q3, q4⟩ := q
    have hI3 := LI_c hI1 z3 q3
    rw [ef] at q4 ⊢
    refine zk_iload hX dL_law_960 rfl ?_
    refine zk_icmp_ne (tgt := 1049) hX dL_law_962 (by decide) (fun c962 => ?_) (fun c962 => ?_)
    · exact absurd rfl c962
    refine zk_aload_n hX dL_law_965 rfl ?_
    refine zk_iconst (v := 5) hX dL_law_966 (by decide) ?_
    refine zl_callO (M' := mX11_sets) (As := [_]) (b := false) hX hu hn2 dL_law_967 kcX11_sets mlL_123 viX11_sets rfl (o_sets (hI3 false).1 hc hk q4) rfl rfl rfl (Nat.le_of_ble_eq_true rfl) rfl ⟨Nat.le_of_ble_eq_true rfl, Nat.le_of_ble_eq_true hsl⟩ (fun x W4 z4 q => ?_)
    obtain ⟨⟨m, rfl, m1, m2⟩, q5⟩ := q
    have hI4 := LI_c hI3 z4 (S5_c q5)
    have R4 := R5_f q4 q5
    refine zk_iconst (v := 1) hX dL_law_970 (by decide) ?_
    refine zk_icmp_lt (tgt := 1049) hX dL_law_971 (by decide) (fun c971 => ?_) (fun c971 => ?_)
    · exact absurd c971 (nI_nlt (b := 1) m1 (by omega))
    refine zk_aload_n hX dL_law_974 rfl ?_
    refine zk_iconst (v := 5) hX dL_law_975 (by decide) ?_
    refine zl_callO (M' := mX11_picture) (As := [_]) (b := false) hX hu hn2 dL_law_976 kcX11_picture mlL_126 viX11_picture rfl (o_picture (hI4 false).1 hc hk R4) rfl rfl rfl (Nat.le_of_ble_eq_true rfl) rfl ⟨Nat.le_of_ble_eq_true rfl, Nat.le_of_ble_eq_true hsl⟩ (fun x W5 z5 q => ?_)
    obtain ⟨⟨m3, rfl, m4⟩, ⟨m5, q6, m6, m7⟩, q7⟩ := q
    have hI5 := LI_c hI4 z5 (S5_c q7)
    have R5' := R5_f R4 q7
    refine zk_if_lt (tgt := 1049) hX dL_law_979 (by decide) (fun c979 => ?_) (fun c979 => ?_)
    · exact absurd c979 (fun q => absurd (nI_pos' (n := m3) (by omega)) (Int32.not_le.mpr q))
    refine zk_aload_n hX dL_law_982 rfl ?_
    refine zl_callO (M' := mX11_asked) (As := []) (b := false) hX hu hn2 dL_law_983 kcX11_asked mlL_56 viX11_asked rfl (o_asked (hI5 false).1.1) rfl rfl rfl (Nat.le_of_ble_eq_true rfl) rfl ⟨Nat.le_of_ble_eq_true rfl, Nat.le_of_ble_eq_true hsl⟩ (fun x W6 z6 q => ?_)
    obtain ⟨rfl, q8⟩ := q
    have hI6 := LI_c hI5 z6 (by rw [q8]; exact Sc_r _)
    have R6 : R5 (W6 false) (cS Dd c) := by { rw [q8]; exact R5' }
    rw [q6]
    refine zk_iconst (v := 1) hX dL_law_986 (by decide) ?_
    refine zk_icmp_lt (tgt := 1049) hX dL_law_987 (by decide) (fun c987 => ?_) (fun c987 => ?_)
    · exact absurd c987 (nI_nlt (b := 1) m6 (by omega))
    refine zk_aload_n hX dL_law_990 rfl ?_
    refine zk_iconst (v := 1) hX dL_law_991 (by decide) ?_
    refine zk_iconst (v := 5) hX dL_law_992 (by decide) ?_
    refine zk_iconst (v := 5) hX dL_law_993 (by decide) ?_
    refine zk_iconst (v := 0) hX dL_law_994 (by decide) ?_
    refine zl_callO (M' := mX11_beast) (As := [_, _, _, _]) (b := false) hX hu hn2 dL_law_995 kcX11_beast mlL_77 viX11_beast rfl (o_beast1 (hI6 false).1 (hI6 false).2 R6) rfl rfl rfl (Nat.le_of_ble_eq_true rfl) rfl ⟨Nat.le_of_ble_eq_true rfl, Nat.le_of_ble_eq_true hsl⟩ (fun x W7 z7 q => ?_)
    obtain ⟨rfl, q9, qa, -⟩ := q
    have hI7 : LI Dd Mm Yy 7 (t + 1) cs W7 := fun b => by { cases b with | false => exact q9 | true => rw [z7 true (by decide)]; exact hI6 true }
    refine zk_iload hX dL_law_998 rfl ?_
    refine zk_icmp_ne (tgt := 1049) hX dL_law_1000 (by decide) (fun c1000 => ?_) (fun c1000 => ?_)
    · exact absurd rfl c1000
    refine zk_aload_n hX dL_law_1003 rfl ?_
    refine zk_iconst (v := 1) hX dL_law_1004 (by decide) ?_
    refine zk_iconst (v := 3) hX dL_law_1005 (by decide) ?_
    refine zl_callO (M' := mX11_nearest) (As := [_, _]) (b := false) hX hu hn2 dL_law_1006 kcX11_nearest mlL_87 viX11_nearest rfl (o_near (k := 1) (r := 3) (hI7 false).1 (by decide) qa.1 qa.2 (Or.inr rfl)) rfl rfl rfl (Nat.le_of_ble_eq_true rfl) rfl ⟨Nat.le_of_ble_eq_true rfl, Nat.le_of_ble_eq_true hsl⟩ (fun x W8 z8 q => ?_)
    obtain ⟨rfl, qb⟩ := q
    have hI8 := LI_c hI7 z8 (S5_c qb)
    have B8 := B1_f qa (S5_c qb)
    rw [eN]
    refine zk_if_ne (tgt := 1049) hX dL_law_1009 (by decide) (fun c1009 => ?_) (fun c1009 => ?_)
    · exact absurd rfl c1009
    refine zk_aload_n hX dL_law_1012 rfl ?_
    refine zk_iload hX dL_law_1013 rfl ?_
    refine zk_iconst (v := 1) hX dL_law_1015 (by decide) ?_
    refine zl_callO (M' := mX11_off) (As := [_, _]) (b := false) hX hu hn2 dL_law_1016 kcX11_off mlL_117 viX11_off rfl (o_off (p := t) (k := 1) (hI8 false).1 (hI8 false).2 hp (by decide) B8.1 B8.2) rfl rfl rfl (Nat.le_of_ble_eq_true rfl) rfl ⟨Nat.le_of_ble_eq_true rfl, Nat.le_of_ble_eq_true hsl⟩ (fun x W9 z9 q => ?_)
    obtain ⟨rfl, qc⟩ := q
    have hI9 := LI_c hI8 z9 (S5_c qc)
    have B9 := B1_f B8 (S5_c qc)
    rw [ef, h0]
    refine zk_if_ne (tgt := 1049) hX dL_law_1019 (by decide) (fun c1019 => ?_) (fun c1019 => ?_)
    · exact absurd rfl c1019
    refine zk_aload_n hX dL_law_1022 rfl ?_
    refine zk_iload hX dL_law_1023 rfl ?_
    refine zk_iconst (v := 1) hX dL_law_1025 (by decide) ?_
    refine zl_callO (M' := mX11_where) (As := [_, _]) (b := false) hX hu hn2 dL_law_1026 kcX11_where mlL_129 viX11_where rfl (o_where (p := t) (k := 1) (hI9 false).1 (hI9 false).2 hp (by decide) B9.1 B9.2) rfl rfl rfl (Nat.le_of_ble_eq_true rfl) rfl ⟨Nat.le_of_ble_eq_true rfl, Nat.le_of_ble_eq_true hsl⟩ (fun x W10 z10 q => ?_)
    obtain ⟨⟨m8, rfl, m9⟩, qd⟩ := q
    have hI10 := LI_c hI9 z10 (S5_c qd)
    rw [ef, h0] at m9
    obtain rfl : m8 = 0 := by omega
    refine zk_if_ne (tgt := 1049) hX dL_law_1029 (by decide) (fun c1029 => ?_) (fun c1029 => ?_)
    · exact absurd rfl c1029
    refine zk_aload_n hX dL_law_1032 rfl ?_
    refine zk_iload hX dL_law_1033 rfl ?_
    refine zk_iconst (v := 0) hX dL_law_1035 (by decide) ?_
    refine zl_callO (M' := mX11_where) (As := [_, _]) (b := false) hX hu hn2 dL_law_1036 kcX11_where mlL_129 viX11_where rfl (o_where (p := t) (k := 0) (hI10 false).1 (hI10 false).2 hp (by decide) (hI10 false).1.2.2.2.2.2.2.1 (hI10 false).1.2.2.2.2.2.2.2) rfl rfl rfl (Nat.le_of_ble_eq_true rfl) rfl ⟨Nat.le_of_ble_eq_true rfl, Nat.le_of_ble_eq_true hsl⟩ (fun x W11 z11 q => ?_)
    obtain ⟨⟨ma, rfl, mb⟩, qe⟩ := q
    have hI11 := LI_c hI10 z11 (S5_c qe)
    rw [ef] at mb
    refine zk_aload_n hX dL_law_1039 rfl ?_
    refine zk_iload hX dL_law_1040 rfl ?_
    refine zk_iconst (v := 0) hX dL_law_1042 (by decide) ?_
    refine zl_callO (M' := mX11_off) (As := [_, _]) (b := false) hX hu hn2 dL_law_1043 kcX11_off mlL_117 viX11_off rfl (o_off (p := t) (k := 0) (hI11 false).1 (hI11 false).2 hp (by decide) (hI11 false).1.2.2.2.2.2.2.1 (hI11 false).1.2.2.2.2.2.2.2) rfl rfl rfl (Nat.le_of_ble_eq_true rfl) rfl ⟨Nat.le_of_ble_eq_true rfl, Nat.le_of_ble_eq_true hsl⟩ (fun x W12 z12 q => ?_)
    obtain ⟨rfl, qf⟩ := q
    have hI12 := LI_c hI11 z12 (S5_c qf)
    rw [ef]
    refine zk_icmp_le (tgt := 1051) hX dL_law_1046 (by decide) (fun c1046 => ?_) (fun c1046 => ?_)
    rotate_left
    · exact absurd (nI_le mb (by omega)) c1046
    exact K W12 hI12
  · refine zk_aload_n hX dL_law_938 rfl ?_
    refine zk_aload_n hX dL_law_939 rfl ?_
    refine zk_iload hX dL_law_940 rfl ?_
    refine zk_iconst (v := 0) hX dL_law_942 (by decide) ?_
    refine zl_callO (M' := mX11_about) (As := [_, _]) (b := false) hX hu hn2 dL_law_943 kcX11_about mlL_107 viX11_about rfl (o_about (p := t) (k := 0) (hI false).1.1 (hI false).2 hp (by decide)) rfl rfl rfl (Nat.le_of_ble_eq_true rfl) rfl ⟨Nat.le_of_ble_eq_true rfl, Nat.le_of_ble_eq_true hsl⟩ (fun x W1 z1 q => ?_)
    obtain ⟨rfl, q1⟩ := q
    have hI1 := LI_c hI z1 (by rw [q1]; exact Sc_1)
    have t1 : (W1 false).1 1 0 = zkd (Dd false) (zcode_t (Dd false) c) (-1) 7 := by { rw [q1, zsi_1, if_pos ⟨rfl, rfl⟩, if_pos rfl, ef] }
    refine zl_callS (M' := mL_tells) (As := [_, _]) hX dL_law_946 kcL_tells mlL_110 smL_tells rfl (s_L_tells (b := false) (x := 1) hn (hI1 false).1.1) rfl rfl (Nat.le_of_ble_eq_true rfl) rfl ⟨Nat.le_of_ble_eq_true rfl, Nat.le_of_ble_eq_true hsl⟩ (fun x W2 a2 q => ?_)
    obtain ⟨⟨rfl, rfl⟩, rfl⟩ := q
    rw [if_pos rfl, t1]
    refine zk_iconst (v := 1) hX dL_law_949 (by decide) ?_
    refine zk_icmp_ne (tgt := 1051) hX dL_law_950 (by decide) (fun c950 => ?_) (fun c950 => ?_)
    rotate_left
    · exact absurd c950 hk
    exact K W2 hI1
/-- five poses -/
theorem lw_five (hX : zH G X mL_law) (hsl : Nat.ble sl 7302250 = true) (hL : LA Dd Mm Yy) (K : ∀ (a2 : zA3) Wd1 cs, LI Dd Mm Yy 7 5 cs Wd1 → lPc Dd 5 cs → zk G X mL_law 340 340 sl 1060 (loA ++ [.null, .int (nI 5), .null, .null, .null, .null, .null, .null, .null]) [] (zcm Wd1 a2)) :
    ∀ (a1 : zA3) Wd cs, aH (a1 332) (Dd false) → LI Dd Mm Yy 7 0 cs Wd → zk G X mL_law 340 340 sl 650 (loA ++ [.null, .null, .null, .null, .null, .null, .null, .null, .null]) [] (zcm Wd a1) := by
  have hn : zLn 340 := Or.inr rfl
  have hu := zLn_u hn
  have hn2 := zLn_2 hn
  have loop : ∀ z t (a1 : zA3) Wd cs, t + z = 5 → aH (a1 332) (Dd false) → LI Dd Mm Yy 7 t cs Wd → lPc Dd t cs → zk G X mL_law 340 340 sl 656 (loA ++ [.null, .int (nI t), .int (nI t), .null, .null, .null, .null, .null, .null]) [] (zcm Wd a1) := by
    intro z
    induction z with
    | zero =>
      intro t a1 Wd cs ht hA hI hP
      obtain rfl : t = 5 := by omega
      refine zk_iload hX dL_law_656 rfl ?_
      refine zk_iconst (v := 5) hX dL_law_658 (by decide) ?_
      refine zk_icmp_ge (tgt := 1060) hX dL_law_659 (by decide) (fun c659 => ?_) (fun c659 => ?_)
      rotate_left
      · exact absurd (by decide) c659
      exact zk_fg (lo' := loA ++ [.null, .int (nI 5), .null, .null, .null, .null, .null, .null, .null]) (by repeat (first | exact trivial | refine ⟨Or.inr rfl, ?_⟩ | refine ⟨Or.inl rfl, ?_⟩)) (K _ _ _ hI hP)
    | succ z ih =>
      intro t a1 Wd cs ht hA hI hP
      have hD := (hI false).1.2.1.1
      have ht5 : t < 5 := by omega
      refine lw_turns hX hsl hD hL.2.2.2 hA ht5 (fun a2 c v14 hc hA2 hv => ?_)
      refine lw_pose hX hsl hL hA2 ht5 hc hI hv (fun W1 h1 => ?_)
      refine lw_shape hX hsl hL ht5 hc h1 (fun W2 h2 r2 q2 => ?_)
      have next : ∀ W3, LI Dd Mm Yy 7 (t + 1) (cN cs (nT (Dd false)) t c) W3 → zk G X mL_law 340 340 sl 1051 (loA ++ [.null, .int (nI t), .int (nI t), .int (nI (zcard (cS Dd c))), .null, .null, .null, .null, .null]) [] (zcm W3 a2) := by
        intro W3 h3
        have h0 := ih (t + 1) a2 W3 (cN cs (nT (Dd false)) t c) (by omega) hA2 h3 (fun p hp => by
          show (if p = t then _ else cs true p) = nT (Dd false) - 1 - (if p = t then _ else cs false p) ∧ (if p = t then _ else cs false p) < nT (Dd false)
          by_cases e : p = t
          · rw [if_pos e, if_pos e]
            exact ⟨rfl, hc⟩
          · rw [if_neg e, if_neg e]
            exact hP p (by omega))
        refine zk_iinc (lo' := [_, _, _, _, _, _, _, _, _, _, _, _, _, _, _, _, _, _, _, _]) hX dL_law_1051 rfl (by exact zinc _) (Nat.le_of_ble_eq_true rfl) rfl rfl ?_
        refine zk_iinc (lo' := [_, _, _, _, _, _, _, _, _, _, _, _, _, _, _, _, _, _, _, _]) hX dL_law_1054 rfl (by exact zinc _) (Nat.le_of_ble_eq_true rfl) rfl rfl ?_
        refine zk_goto (tgt := 656) hX dL_law_1057 (by decide) ?_
        exact zk_fg (lo' := loA ++ [.null, .int (nI (t + 1)), .int (nI (t + 1)), .null, .null, .null, .null, .null, .null]) (by repeat (first | exact trivial | refine ⟨Or.inr rfl, ?_⟩ | refine ⟨Or.inl rfl, ?_⟩)) h0
      have h4 := lw_lines (v12 := .int (nI t)) (x14 := nI (zcard (cS Dd c))) (cs := cN cs (nT (Dd false)) t c) (t := t) (c := c) (a1 := a2) hX hsl hD hL.1 hc (fun W3 h3 r3 => lw_held hX hsl ht5 hc (if_pos rfl) h3 r3 (fun W4 h4 => next W4 h4)) 10 0 W2 (by omega) h2 r2 q2
      refine zk_iconst (v := 0) hX dL_law_863 (by decide) ?_
      refine zk_istore (lo' := [_, _, _, _, _, _, _, _, _, _, _, _, _, _, _, _, _, _, _, _]) hX dL_law_864 (Nat.le_of_ble_eq_true rfl) rfl rfl ?_
      exact zk_fg (lo' := loA ++ [.null, .int (nI t), .int (nI t), .int (nI (zcard (cS Dd c))), .int (nI 0), .null, .null, .null, .null]) (by repeat (first | exact trivial | refine ⟨Or.inr rfl, ?_⟩ | refine ⟨Or.inl rfl, ?_⟩)) h4
  intro a1 Wd cs hA hI
  refine zk_iconst (v := 0) hX dL_law_650 (by decide) ?_
  refine zk_istore (lo' := [_, _, _, _, _, _, _, _, _, _, _, _, _, _, _, _, _, _, _, _]) hX dL_law_651 (Nat.le_of_ble_eq_true rfl) rfl rfl ?_
  refine zk_iconst (v := 0) hX dL_law_653 (by decide) ?_
  refine zk_istore (lo' := [_, _, _, _, _, _, _, _, _, _, _, _, _, _, _, _, _, _, _, _]) hX dL_law_654 (Nat.le_of_ble_eq_true rfl) rfl rfl ?_
  exact loop 5 0 a1 Wd cs (by omega) hA hI (fun p hp => absurd hp (Nat.not_lt_zero _))
end LAW
