section LAW
variable {G : zG} {X : zX} {sl : Nat} {Dd : Bool → zD} {Mm Yy : Bool → zS} {a1 : zA3}
theorem i_lt {x : Int32} (h : ¬ x < 0) : 0 ≤ x := Int32.not_lt.mp h
/-- by a third pose -/
theorem lw_third {a b : Nat} {cs : Bool → Nat → Nat} {x15 x16 : Int32} (hX : zH G X mL_law) (hsl : Nat.ble sl 7302250 = true) (ha : a < 5) (hb : b < 5) (hw : wA (Dd false) 7 (cs false a) (cs false b) x15)
    (K : ∀ Wd1, LI Dd Mm Yy 7 5 cs Wd1 → zk G X mL_law 340 340 sl 1234 (loA ++ [.null, .int (nI 5), .int (nI a), .int (nI b), .null, .null, .null, .null, .null]) [] (zcm Wd1 a1)) :
    ∀ z c Wd, c + z = 5 → LI Dd Mm Yy 7 5 cs Wd → zk G X mL_law 340 340 sl 1174 (loA ++ [.null, .int (nI 5), .int (nI a), .int (nI b), .int x15, .int x16, .int (nI c), .null, .null]) [] (zcm Wd a1) := by
  have hn : zLn 340 := Or.inr rfl
  have hu := zLn_u hn
  have hn2 := zLn_2 hn
  intro z
  induction z with
  | zero =>
    intro c Wd hc hI
    obtain rfl : c = 5 := by omega
    refine zk_iload hX dL_law_1174 rfl ?_
    refine zk_iload hX dL_law_1176 rfl ?_
    refine zk_icmp_ge (tgt := 1234) hX dL_law_1178 (by decide) (fun c1178 => ?_) (fun c1178 => ?_)
    rotate_left
    · exact absurd (by decide) c1178
    exact zk_fg (lo' := loA ++ [.null, .int (nI 5), .int (nI a), .int (nI b), .null, .null, .null, .null, .null]) (by repeat (first | exact trivial | refine ⟨Or.inr rfl, ?_⟩ | refine ⟨Or.inl rfl, ?_⟩)) (K _ hI)
  | succ z ih =>
    intro c Wd hc hI
    have hc5 : c < 5 := by omega
    have hD := (hI false).1.2.1.1
    have hN : nT (Dd false) ≤ 4096 := (hI false).1.2.1.2
    have pa := ((hI false).2.2.2 a ha).2
    have pc := ((hI false).2.2.2 c hc5).2
    have next : ∀ Wd1 (x18 x19 : Int32), LI Dd Mm Yy 7 5 cs Wd1 → zk G X mL_law 340 340 sl 1228 (loA ++ [.null, .int (nI 5), .int (nI a), .int (nI b), .int x15, .int x16, .int (nI c), .int x18, .int x19]) [] (zcm Wd1 a1) := by
      intro Wd1 x18 x19 h1
      have h0 := ih (c + 1) Wd1 (by omega) h1
      refine zk_iinc (lo' := [_, _, _, _, _, _, _, _, _, _, _, _, _, _, _, _, _, _, _, _]) hX dL_law_1228 rfl (by exact zinc _) (Nat.le_of_ble_eq_true rfl) rfl rfl ?_
      refine zk_goto (tgt := 1174) hX dL_law_1231 (by decide) ?_
      exact zk_fg (lo' := loA ++ [.null, .int (nI 5), .int (nI a), .int (nI b), .int x15, .int x16, .int (nI (c + 1)), .null, .null]) (by repeat (first | exact trivial | refine ⟨Or.inr rfl, ?_⟩ | refine ⟨Or.inl rfl, ?_⟩)) h0
    refine zk_iload hX dL_law_1174 rfl ?_
    refine zk_iload hX dL_law_1176 rfl ?_
    refine zk_icmp_ge (tgt := 1234) hX dL_law_1178 (by decide) (fun c1178 => ?_) (fun c1178 => ?_)
    · exact absurd c1178 (nI_ge (b := 5) hc5 (by decide))
    refine zk_aload_n hX dL_law_1181 rfl ?_
    refine zk_iload hX dL_law_1182 rfl ?_
    refine zk_iload hX dL_law_1184 rfl ?_
    refine zl_callO (M' := mX11_way) (As := [_, _]) (b := false) hX hu hn2 dL_law_1186 kcX11_way mlL_132 viX11_way rfl (o_way (p := a) (q := c) (hI false).1 (hI false).2 ha hc5) rfl rfl rfl (Nat.le_of_ble_eq_true rfl) rfl ⟨Nat.le_of_ble_eq_true rfl, Nat.le_of_ble_eq_true hsl⟩ (fun r1 W1 z1 q => ?_)
    obtain ⟨q1, q2⟩ := q
    have hI1 := LI_c hI z1 (S5_c q2)
    refine zk_istore (lo' := [_, _, _, _, _, _, _, _, _, _, _, _, _, _, _, _, _, _, _, _]) hX dL_law_1189 (Nat.le_of_ble_eq_true rfl) rfl rfl ?_
    refine zk_aload_n hX dL_law_1191 rfl ?_
    refine zk_iload hX dL_law_1192 rfl ?_
    refine zk_iload hX dL_law_1194 rfl ?_
    refine zl_callO (M' := mX11_way) (As := [_, _]) (b := false) hX hu hn2 dL_law_1196 kcX11_way mlL_132 viX11_way rfl (o_way (p := c) (q := b) (hI1 false).1 (hI1 false).2 hc5 hb) rfl rfl rfl (Nat.le_of_ble_eq_true rfl) rfl ⟨Nat.le_of_ble_eq_true rfl, Nat.le_of_ble_eq_true hsl⟩ (fun r2 W2 z2 q => ?_)
    obtain ⟨q3, q4⟩ := q
    have hI2 := LI_c hI1 z2 (S5_c q4)
    refine zk_istore (lo' := [_, _, _, _, _, _, _, _, _, _, _, _, _, _, _, _, _, _, _, _]) hX dL_law_1199 (Nat.le_of_ble_eq_true rfl) rfl rfl ?_
    refine zk_iload hX dL_law_1201 rfl ?_
    refine zk_if_lt (tgt := 1228) hX dL_law_1203 (by decide) (fun c1203 => ?_) (fun c1203 => ?_)
    · exact next W2 _ _ hI2
    · refine zk_iload hX dL_law_1206 rfl ?_
      refine zk_if_lt (tgt := 1228) hX dL_law_1208 (by decide) (fun c1208 => ?_) (fun c1208 => ?_)
      · exact next W2 _ _ hI2
      · have w9 := wA_t hD hN pa pc hw q1 q3 (i_lt c1203) (i_lt c1208)
        refine zk_iload hX dL_law_1211 rfl ?_
        refine zk_if_lt (tgt := 1226) hX dL_law_1213 (by decide) (fun c1213 => ?_) (fun c1213 => ?_)
        · exact absurd c1213 (Int32.not_lt.mpr w9.1)
        refine zk_iload hX dL_law_1216 rfl ?_
        refine zk_iload hX dL_law_1218 rfl ?_
        refine zk_iload hX dL_law_1220 rfl ?_
        refine zk_iadd hX dL_law_1222 ?_
        refine zk_icmp_le (tgt := 1228) hX dL_law_1223 (by decide) (fun c1223 => ?_) (fun c1223 => ?_)
        rotate_left
        · exact absurd w9.2 c1223
        exact next W2 _ _ hI2
/-- two poses -/
theorem lw_two {a b : Nat} {cs : Bool → Nat → Nat} {Wd : Bool → zW} (hX : zH G X mL_law) (hsl : Nat.ble sl 7302250 = true) (hL : LA Dd Mm Yy) (hP : lPc Dd 5 cs) (ha : a < 5) (hb : b < 5) (hI : LI Dd Mm Yy 7 5 cs Wd)
    (K : ∀ Wd1, LI Dd Mm Yy 7 5 cs Wd1 → zk G X mL_law 340 340 sl 1234 (loA ++ [.null, .int (nI 5), .int (nI a), .int (nI b), .null, .null, .null, .null, .null]) [] (zcm Wd1 a1)) :
    zk G X mL_law 340 340 sl 1080 (loA ++ [.null, .int (nI 5), .int (nI a), .int (nI b), .null, .null, .null, .null, .null]) [] (zcm Wd a1) := by
  have hn : zLn 340 := Or.inr rfl
  have hu := zLn_u hn
  have hn2 := zLn_2 hn
  have hD := (hI false).1.2.1.1
  have hD' := (hI true).1.2.1.1
  have hN : nT (Dd false) ≤ 4096 := (hI false).1.2.1.2
  have pa := ((hI false).2.2.2 a ha).2
  have pb := ((hI false).2.2.2 b hb).2
  have ea := (hP a ha).1
  have eb := (hP b hb).1
  have k1154 : ∀ (W : Bool → zW) (x15 x16 : Int32), LI Dd Mm Yy 7 5 cs W → wA (Dd false) 7 (cs false a) (cs false b) x15 → uA (Dd false) 7 (Mm false) (Yy false) (cs false a) (cs false b) x16 → zk G X mL_law 340 340 sl 1154 (loA ++ [.null, .int (nI 5), .int (nI a), .int (nI b), .int x15, .int x16, .null, .null, .null]) [] (zcm W a1) := by
    intro W x15 x16 h1 h2 h3
    refine zk_iload hX dL_law_1154 rfl ?_
    refine zk_aload_n hX dL_law_1156 rfl ?_
    refine zk_iload hX dL_law_1157 rfl ?_
    refine zk_iload hX dL_law_1159 rfl ?_
    refine zk_iconst (v := 0) hX dL_law_1161 (by decide) ?_
    refine zk_iconst (v := 3) hX dL_law_1162 (by decide) ?_
    refine zl_callO (M' := mX11_unseen) (As := [_, _, _, _]) (b := false) hX hu hn2 dL_law_1163 kcX11_unseen mlL_135 viX11_unseen rfl (o_unseen (p := b) (q := a) (h1 false).1 (h1 false).2 hb ha) rfl rfl rfl (Nat.le_of_ble_eq_true rfl) rfl ⟨Nat.le_of_ble_eq_true rfl, Nat.le_of_ble_eq_true hsl⟩ (fun r W1 z1 q => ?_)
    obtain ⟨q1, q2⟩ := q
    have hI1 := LI_c h1 z1 (S5_c q2)
    have e9 := uA_s hD pa pb h3 q1
    refine zk_icmp_eq (tgt := 1171) hX dL_law_1166 (by decide) (fun c1166 => ?_) (fun c1166 => ?_)
    rotate_left
    · exact absurd e9 c1166
    refine zk_iconst (v := 0) hX dL_law_1171 (by decide) ?_
    refine zk_istore (lo' := [_, _, _, _, _, _, _, _, _, _, _, _, _, _, _, _, _, _, _, _]) hX dL_law_1172 (Nat.le_of_ble_eq_true rfl) rfl rfl ?_
    exact lw_third hX hsl ha hb h2 K 5 0 W1 (by omega) hI1
  have k1130 : ∀ (W : Bool → zW) (x15 : Int32), LI Dd Mm Yy 7 5 cs W → wA (Dd false) 7 (cs false a) (cs false b) x15 → zk G X mL_law 340 340 sl 1130 (loA ++ [.null, .int (nI 5), .int (nI a), .int (nI b), .int x15, .null, .null, .null, .null]) [] (zcm W a1) := by
    intro W x15 h1 h2
    refine zk_aload_n hX dL_law_1130 rfl ?_
    refine zk_iload hX dL_law_1131 rfl ?_
    refine zk_iload hX dL_law_1133 rfl ?_
    refine zk_iconst (v := 0) hX dL_law_1135 (by decide) ?_
    refine zk_iconst (v := 3) hX dL_law_1136 (by decide) ?_
    refine zl_callO (M' := mX11_unseen) (As := [_, _, _, _]) (b := false) hX hu hn2 dL_law_1137 kcX11_unseen mlL_135 viX11_unseen rfl (o_unseen (p := a) (q := b) (h1 false).1 (h1 false).2 ha hb) rfl rfl rfl (Nat.le_of_ble_eq_true rfl) rfl ⟨Nat.le_of_ble_eq_true rfl, Nat.le_of_ble_eq_true hsl⟩ (fun r W1 z1 q => ?_)
    obtain ⟨q1, q2⟩ := q
    have hI1 := LI_c h1 z1 (S5_c q2)
    refine zk_istore (lo' := [_, _, _, _, _, _, _, _, _, _, _, _, _, _, _, _, _, _, _, _]) hX dL_law_1140 (Nat.le_of_ble_eq_true rfl) rfl rfl ?_
    refine zk_iload hX dL_law_1142 rfl ?_
    refine zk_if_lt (tgt := 1154) hX dL_law_1144 (by decide) (fun c1144 => ?_) (fun c1144 => ?_)
    · exact k1154 W1 _ _ hI1 h2 q1
    · refine zk_iload hX dL_law_1147 rfl ?_
      refine zk_iload hX dL_law_1149 rfl ?_
      refine zk_icmp_lt (tgt := 1169) hX dL_law_1151 (by decide) (fun c1151 => ?_) (fun c1151 => ?_)
      · exact absurd c1151 (Int32.not_lt.mpr (uA_w hD hN pa h2 q1 (i_lt c1144)))
      exact k1154 W1 _ _ hI1 h2 q1
  refine zk_aload_n hX dL_law_1080 rfl ?_
  refine zk_iload hX dL_law_1081 rfl ?_
  refine zk_iload hX dL_law_1083 rfl ?_
  refine zl_callO (M' := mX11_way) (As := [_, _]) (b := false) hX hu hn2 dL_law_1085 kcX11_way mlL_132 viX11_way rfl (o_way (p := a) (q := b) (hI false).1 (hI false).2 ha hb) rfl rfl rfl (Nat.le_of_ble_eq_true rfl) rfl ⟨Nat.le_of_ble_eq_true rfl, Nat.le_of_ble_eq_true hsl⟩ (fun r1 W1 z1 q => ?_)
  obtain ⟨q1, q2⟩ := q
  have hI1 := LI_c hI z1 (S5_c q2)
  refine zk_istore (lo' := [_, _, _, _, _, _, _, _, _, _, _, _, _, _, _, _, _, _, _, _]) hX dL_law_1088 (Nat.le_of_ble_eq_true rfl) rfl rfl ?_
  refine zk_iload hX dL_law_1090 rfl ?_
  refine zk_aload_n hX dL_law_1092 rfl ?_
  refine zk_iload hX dL_law_1093 rfl ?_
  refine zk_iload hX dL_law_1095 rfl ?_
  refine zl_callO (M' := mX11_way) (As := [_, _]) (b := true) hX hu hn2 dL_law_1097 kcX11_way mlL_132 viX11_way rfl (o_way (p := a) (q := b) (hI1 true).1 (hI1 true).2 ha hb) rfl rfl rfl (Nat.le_of_ble_eq_true rfl) rfl ⟨Nat.le_of_ble_eq_true rfl, Nat.le_of_ble_eq_true hsl⟩ (fun r2 W2 z2 q => ?_)
  obtain ⟨q3, q4⟩ := q
  have hI2 := LI_c hI1 z2 (S5_c q4)
  rw [ea, eb] at q3
  have e1 := wA_g hD hD' hL.1 pa pb q1 q3
  refine zk_icmp_ne (tgt := 1128) hX dL_law_1100 (by decide) (fun c1100 => ?_) (fun c1100 => ?_)
  · exact absurd e1 c1100
  refine zk_iload hX dL_law_1103 rfl ?_
  refine zk_aload_n hX dL_law_1105 rfl ?_
  refine zk_iload hX dL_law_1106 rfl ?_
  refine zk_iload hX dL_law_1108 rfl ?_
  refine zl_callO (M' := mX11_way) (As := [_, _]) (b := false) hX hu hn2 dL_law_1110 kcX11_way mlL_132 viX11_way rfl (o_way (p := b) (q := a) (hI2 false).1 (hI2 false).2 hb ha) rfl rfl rfl (Nat.le_of_ble_eq_true rfl) rfl ⟨Nat.le_of_ble_eq_true rfl, Nat.le_of_ble_eq_true hsl⟩ (fun r3 W3 z3 q => ?_)
  obtain ⟨q5, q6⟩ := q
  have hI3 := LI_c hI2 z3 (S5_c q6)
  have e2 := wA_s hD pa pb q1 q5
  refine zk_icmp_ne (tgt := 1128) hX dL_law_1113 (by decide) (fun c1113 => ?_) (fun c1113 => ?_)
  · exact absurd e2 c1113
  refine zk_iload hX dL_law_1116 rfl ?_
  refine zk_iload hX dL_law_1118 rfl ?_
  refine zk_icmp_ne (tgt := 1130) hX dL_law_1120 (by decide) (fun c1120 => ?_) (fun c1120 => ?_)
  · exact k1130 W3 _ hI3 q1
  · have e3 : a = b := nI_inj (by omega) (by omega) (by first | exact c1120 | exact Decidable.not_not.mp c1120)
    refine zk_iload hX dL_law_1123 rfl ?_
    refine zk_if_le (tgt := 1130) hX dL_law_1125 (by decide) (fun c1125 => ?_) (fun c1125 => ?_)
    rotate_left
    · exact absurd (by subst e3; exact wA_0 q1) c1125
    exact k1130 W3 _ hI3 q1
/-- all of them -/
theorem lw_ways {cs : Bool → Nat → Nat} (hX : zH G X mL_law) (hsl : Nat.ble sl 7302250 = true) (hL : LA Dd Mm Yy) (hP : lPc Dd 5 cs) (hend : ∀ lo w, zk G X mL_law 340 340 sl 1247 lo [.int 1] w) :
    ∀ Wd, LI Dd Mm Yy 7 5 cs Wd → zk G X mL_law 340 340 sl 1060 (loA ++ [.null, .int (nI 5), .null, .null, .null, .null, .null, .null, .null]) [] (zcm Wd a1) := by
  have hn : zLn 340 := Or.inr rfl
  have hu := zLn_u hn
  have hn2 := zLn_2 hn
  have lb : ∀ (a : Nat), a < 5 → (∀ Wd1, LI Dd Mm Yy 7 5 cs Wd1 → zk G X mL_law 340 340 sl 1240 (loA ++ [.null, .int (nI 5), .int (nI a), .null, .null, .null, .null, .null, .null]) [] (zcm Wd1 a1)) →
      ∀ z b Wd, b + z = 5 → LI Dd Mm Yy 7 5 cs Wd → zk G X mL_law 340 340 sl 1073 (loA ++ [.null, .int (nI 5), .int (nI a), .int (nI b), .null, .null, .null, .null, .null]) [] (zcm Wd a1) := by
    intro a ha K z
    induction z with
    | zero =>
      intro b Wd hb hI
      obtain rfl : b = 5 := by omega
      refine zk_iload hX dL_law_1073 rfl ?_
      refine zk_iload hX dL_law_1075 rfl ?_
      refine zk_icmp_ge (tgt := 1240) hX dL_law_1077 (by decide) (fun c1077 => ?_) (fun c1077 => ?_)
      rotate_left
      · exact absurd (by decide) c1077
      exact zk_fg (lo' := loA ++ [.null, .int (nI 5), .int (nI a), .null, .null, .null, .null, .null, .null]) (by repeat (first | exact trivial | refine ⟨Or.inr rfl, ?_⟩ | refine ⟨Or.inl rfl, ?_⟩)) (K _ hI)
    | succ z ih =>
      intro b Wd hb hI
      have next : ∀ Wd1, LI Dd Mm Yy 7 5 cs Wd1 → zk G X mL_law 340 340 sl 1234 (loA ++ [.null, .int (nI 5), .int (nI a), .int (nI b), .null, .null, .null, .null, .null]) [] (zcm Wd1 a1) := by
        intro Wd1 h1
        have h0 := ih (b + 1) Wd1 (by omega) h1
        refine zk_iinc (lo' := [_, _, _, _, _, _, _, _, _, _, _, _, _, _, _, _, _, _, _, _]) hX dL_law_1234 rfl (by exact zinc _) (Nat.le_of_ble_eq_true rfl) rfl rfl ?_
        refine zk_goto (tgt := 1073) hX dL_law_1237 (by decide) ?_
        exact h0
      refine zk_iload hX dL_law_1073 rfl ?_
      refine zk_iload hX dL_law_1075 rfl ?_
      refine zk_icmp_ge (tgt := 1240) hX dL_law_1077 (by decide) (fun c1077 => ?_) (fun c1077 => ?_)
      · exact absurd c1077 (nI_ge (b := 5) (by omega) (by decide))
      exact lw_two hX hsl hL hP ha (by omega) hI next
  have la : ∀ z a Wd, a + z = 5 → LI Dd Mm Yy 7 5 cs Wd → zk G X mL_law 340 340 sl 1063 (loA ++ [.null, .int (nI 5), .int (nI a), .null, .null, .null, .null, .null, .null]) [] (zcm Wd a1) := by
    intro z
    induction z with
    | zero =>
      intro a Wd ha hI
      obtain rfl : a = 5 := by omega
      refine zk_iload hX dL_law_1063 rfl ?_
      refine zk_iload hX dL_law_1065 rfl ?_
      refine zk_icmp_ge (tgt := 1246) hX dL_law_1067 (by decide) (fun c1067 => ?_) (fun c1067 => ?_)
      rotate_left
      · exact absurd (by decide) c1067
      refine zk_iconst (v := 1) hX dL_law_1246 (by decide) ?_
      exact hend _ _
    | succ z ih =>
      intro a Wd ha hI
      have next : ∀ Wd1, LI Dd Mm Yy 7 5 cs Wd1 → zk G X mL_law 340 340 sl 1240 (loA ++ [.null, .int (nI 5), .int (nI a), .null, .null, .null, .null, .null, .null]) [] (zcm Wd1 a1) := by
        intro Wd1 h1
        have h0 := ih (a + 1) Wd1 (by omega) h1
        refine zk_iinc (lo' := [_, _, _, _, _, _, _, _, _, _, _, _, _, _, _, _, _, _, _, _]) hX dL_law_1240 rfl (by exact zinc _) (Nat.le_of_ble_eq_true rfl) rfl rfl ?_
        refine zk_goto (tgt := 1063) hX dL_law_1243 (by decide) ?_
        exact h0
      refine zk_iload hX dL_law_1063 rfl ?_
      refine zk_iload hX dL_law_1065 rfl ?_
      refine zk_icmp_ge (tgt := 1246) hX dL_law_1067 (by decide) (fun c1067 => ?_) (fun c1067 => ?_)
      · exact absurd c1067 (nI_ge (b := 5) (by omega) (by decide))
      refine zk_iconst (v := 0) hX dL_law_1070 (by decide) ?_
      refine zk_istore (lo' := [_, _, _, _, _, _, _, _, _, _, _, _, _, _, _, _, _, _, _, _]) hX dL_law_1071 (Nat.le_of_ble_eq_true rfl) rfl rfl ?_
      exact lb a (by omega) next 5 0 Wd (by omega) hI
  intro Wd hI
  refine zk_iconst (v := 0) hX dL_law_1060 (by decide) ?_
  refine zk_istore (lo' := [_, _, _, _, _, _, _, _, _, _, _, _, _, _, _, _, _, _, _, _]) hX dL_law_1061 (Nat.le_of_ble_eq_true rfl) rfl rfl ?_
  exact la 5 0 Wd (by omega) hI
end LAW
