theorem nwL_7 : zNw RL 7 11 := ⟨_, _, _, tyX11, rfl, tyX11_ok, uwX11, zin (zt1 (List.mem_of_getElem? (i := 18) (by decide +kernel))) rfl, zin (zt1 (List.mem_of_getElem? (i := 19) (by decide +kernel))) rfl, zin (zt1 (List.mem_of_getElem? (i := 1) (by decide +kernel))) rfl, rfl, by decide +kernel⟩
theorem nwL_10 : zNw RL 10 12 := ⟨_, _, _, tyX12, rfl, tyX12_ok, uwX12, zin (zt6 (List.mem_of_getElem? (i := 30) (by decide +kernel))) rfl, zin (zt6 (List.mem_of_getElem? (i := 31) (by decide +kernel))) rfl, zin (zt1 (List.mem_of_getElem? (i := 14) (by decide +kernel))) rfl, rfl, by decide +kernel⟩
theorem lw_le {L i : Nat} (hL : L ≤ 3072) (hi : i ≤ L) (h : ¬ nI i > nI L - 6) : i + 6 ≤ L := by
  rcases Nat.lt_or_ge L 6 with h6 | h6
  · exfalso
    have key : ∀ L, L < 6 → ∀ i, i < 6 → nI i > nI L - 6 := by decide +kernel
    exact h (key L h6 i (by omega))
  · rcases Nat.lt_or_ge L (i + 6) with h7 | h7
    · exfalso
      refine h ?_
      have e : nI L - 6 = nI (L - 6) := nI_subE h6 rfl (by decide)
      rw [e]
      exact nI_lt (by omega) (by omega)
    · exact h7
theorem lw_loop {G : zG} {X : zX} {L : Nat} {xs : Nat → Int32} (hX : zH G X mL_law) (hs : zScr G X.2.2.1 L xs) (hL : L ≤ 3072) (hend : ∀ lo w, zk0 G X mL_law 1751 lo [.int 1] w) : ∀ (f i : Nat) (w : zW), L < f + i → i ≤ L → zQ w → zk0 G X mL_law 18 [.float 0, .ref 0, .ref 166, .int (nI i)] [] w
  | 0, i, w, hf, hi, hq => by omega
  | f + 1, i, w, hf, hi, hq => by
    refine zk_iload_n hX dL_law_18 rfl ?_
    refine zk_fload_n hX dL_law_19 rfl ?_
    refine zk_slen hX hs dL_law_20 ?_
    refine zk_bipush (v := 6) hX dL_law_21 (by decide) ?_
    refine zk_isub hX dL_law_23 ?_
    refine zk_icmp_gt (tgt := 1750) hX dL_law_24 (by decide) (fun c => ?_) (fun c => ?_)
    · refine zk_iconst (v := 1) hX dL_law_1750 (by decide) ?_
      exact hend _ w
    · have hle : i + 6 ≤ L := lw_le hL hi c
      have e : ∀ k, nI i + nI k = nI (i + k) := fun k => nI_addE rfl rfl
      have hv : ∀ k, k < 6 → vp_in (nI i + nI k) L := fun k hk => by
        rw [e k]
        exact vp_in_nI (by omega) (by omega)
      have h0 : vp_in (nI i) L := vp_in_nI (by omega) (by omega)
      refine zk_fload_n hX dL_law_27 rfl ?_
      refine zk_iload_n hX dL_law_28 rfl ?_
      refine zk_sld hX hs dL_law_29 h0 ?_
      refine zk_bipush (v := 63) hX dL_law_30 (by decide) ?_
      refine zk_iand hX dL_law_32 ?_
      refine lw_sw hX hs (hv 1 (by decide)) (hv 2 (by decide)) (hv 3 (by decide)) (hv 4 (by decide)) (hv 5 (by decide)) _ hq (fun w1 hq1 => ?_)
      refine zk_iinc (v := nI (i + 6)) (lo' := [_, _, _, _]) hX dL_law_1744 rfl (e 6) (Nat.le_of_ble_eq_true rfl) rfl rfl ?_
      refine zk_goto (tgt := 18) hX dL_law_1747 (by decide) ?_
      exact lw_loop hX hs hL hend f (i + 6) w1 (by omega) hle hq1
set_option maxRecDepth 20000 in
theorem lw_go {G : zG} {X : zX} {L : Nat} {xs : Nat → Int32} (hX : zH G X mL_law) (hs : zScr G X.2.2.1 L xs) (hL : L ≤ 3072) (hend : ∀ lo w, zk0 G X mL_law 1751 lo [.int 1] w) : zk G X mL_law 0 0 0 0 [.float 0, .null, .null, .null] [] zv0 := by
  refine zk_new hX dL_law_0 nwL_7 (by decide) rfl ⟨fun _ => rfl, fun _ => rfl, fun _ => rfl⟩ ⟨by decide, by decide⟩ ?_
  refine zk_nr2 (n' := 1) (cells' := 1) (slots' := 18) (w' := zv0) (st' := [.ref 0]) rfl rfl rfl rfl rfl ?_
  refine zk_dup hX dL_law_3 rfl ?_
  refine zk_callI (M' := mX11_init) hX dL_law_4 kcX11_init mlL_9 imX11_init ⟨rfl, rfl⟩ rfl s_X11_init rfl rfl (Nat.le_of_ble_eq_true rfl) ⟨by decide, by decide⟩ (fun v w1 hq => ?_)
  obtain ⟨rfl, rfl⟩ := hq
  refine zk_nr2 (n' := 166) (cells' := 166) (slots' := 34554) (w' := zv81) (st' := [.ref 0]) rfl rfl rfl rfl rfl ?_
  refine zk_astore_n (lo' := [_, .ref 0, .null, .null]) hX dL_law_7 (Nat.le_of_ble_eq_true rfl) rfl rfl ?_
  refine zk_new hX dL_law_8 nwL_10 (by decide) rfl (zvn81 166 (by decide)) ⟨by decide, by decide⟩ ?_
  refine zk_nr2 (n' := 167) (cells' := 167) (slots' := 34613) (w' := zv81) (st' := [.ref 166]) rfl rfl rfl rfl rfl ?_
  refine zk_dup hX dL_law_11 rfl ?_
  refine zk_callI (M' := mX12_init) hX dL_law_12 kcX12_init mlL_12 imX12_init ⟨rfl, rfl⟩ rfl s_X12_init rfl rfl (Nat.le_of_ble_eq_true rfl) ⟨by decide, by decide⟩ (fun v w1 hq => ?_)
  obtain ⟨rfl, rfl⟩ := hq
  refine zk_nr2 (n' := zN) (cells' := 202) (slots' := 50257) (w' := zv129) (st' := [.ref 166]) rfl rfl rfl rfl rfl ?_
  refine zk_astore_n (lo' := [_, _, .ref 166, .null]) hX dL_law_15 (Nat.le_of_ble_eq_true rfl) rfl rfl ?_
  refine zk_iconst (v := nI 0) hX dL_law_16 (by decide) ?_
  refine zk_istore_n (lo' := [_, _, _, .int (nI 0)]) hX dL_law_17 (Nat.le_of_ble_eq_true rfl) rfl rfl ?_
  refine zk_widen (cells' := 600000) (slots' := 7302250) (by decide) (by decide) ?_
  exact lw_loop hX hs hL hend (L + 1) 0 zv129 (by omega) (Nat.zero_le _) zv_zQ
theorem lw_nst : ∀ q ∈ zNst, Cond.methodLinkNest q.1 q.2.1 q.2.2.1 q.2.2.2 ∈ lw_tbl := by decide +kernel
set_option maxHeartbeats 4000000 in
set_option maxRecDepth 100000 in
theorem whole_start {p : Program} {e : Env} {s : State} {m : MethodId} {below : List Frame} {meth : Method} {c : Code} (l : Launch) (hflags : l.flags = flags0) {b L : Nat} {xs : Nat → Int32} (hL : L ≤ 3072) (C0 : lw_At p s m meth c b L xs) : W p l e room_1 s m #[Value.ref b] below meth c s.heap [] 0 0 (lw_Z below #[Value.ref b] s) (entryFrame m ([Value.ref b] : List Value).toArray 4) := by
  obtain ⟨hx, hb, hr, hml, hown, hts, hXs, hbl, hlocks, hgv⟩ := id C0
  have hgd := flat_of_before _ hgv
  have htz : ∀ w ∈ zTB, w.before #[Value.ref b] s = true := fun w hw => hts w (List.mem_filter.mp hw).1
  obtain ⟨tX, eX, TX⟩ := va_Tof (tm := .static "HandBeasts$Hands" "STEP_X" "[I") (ty := .int) (N := 8) (f := fun j => .int (zsX j)) (A := fun q => s.heap.size ≤ q) (by decide) (hgd _ (by decide +kernel)) (va_eqt (hgd _ (by decide +kernel))) (fun j hj => by
    match j, hj with
    | 0, _ => exact va_eqt (z := 0) (hgd (.eq (.elem (.static "HandBeasts$Hands" "STEP_X" "[I") (.int (0))) (.int (0))) (by decide +kernel))
    | 1, _ => exact va_eqt (z := 1) (hgd (.eq (.elem (.static "HandBeasts$Hands" "STEP_X" "[I") (.int (1))) (.int (1))) (by decide +kernel))
    | 2, _ => exact va_eqt (z := 1) (hgd (.eq (.elem (.static "HandBeasts$Hands" "STEP_X" "[I") (.int (2))) (.int (1))) (by decide +kernel))
    | 3, _ => exact va_eqt (z := 1) (hgd (.eq (.elem (.static "HandBeasts$Hands" "STEP_X" "[I") (.int (3))) (.int (1))) (by decide +kernel))
    | 4, _ => exact va_eqt (z := 0) (hgd (.eq (.elem (.static "HandBeasts$Hands" "STEP_X" "[I") (.int (4))) (.int (0))) (by decide +kernel))
    | 5, _ => exact va_eqt (z := -1) (hgd (.eq (.elem (.static "HandBeasts$Hands" "STEP_X" "[I") (.int (5))) (.int (-1))) (by decide +kernel))
    | 6, _ => exact va_eqt (z := -1) (hgd (.eq (.elem (.static "HandBeasts$Hands" "STEP_X" "[I") (.int (6))) (.int (-1))) (by decide +kernel))
    | 7, _ => exact va_eqt (z := -1) (hgd (.eq (.elem (.static "HandBeasts$Hands" "STEP_X" "[I") (.int (7))) (.int (-1))) (by decide +kernel))
    | j + 8, h => exact absurd h (by omega)) (fun a ha => Nat.not_le.mpr ha)
  have ZX := va_Zof (A := fun q => s.heap.size ≤ q) (hts (.laysStatic "HandBeasts$Hands" "STEP_X" "[I") (zt3 (List.mem_of_getElem? (i := 172) (by decide +kernel)))) (hts (.initialized "HandBeasts$Hands") (zt1 (List.mem_of_getElem? (i := 6) (by decide +kernel)))) eX (fun a ha => Nat.not_le.mpr ha)
  obtain ⟨tY, eY, TY⟩ := va_Tof (tm := .static "HandBeasts$Hands" "STEP_Y" "[I") (ty := .int) (N := 8) (f := fun j => .int (zsY j)) (A := fun q => s.heap.size ≤ q) (by decide) (hgd _ (by decide +kernel)) (va_eqt (hgd _ (by decide +kernel))) (fun j hj => by
    match j, hj with
    | 0, _ => exact va_eqt (z := -1) (hgd (.eq (.elem (.static "HandBeasts$Hands" "STEP_Y" "[I") (.int (0))) (.int (-1))) (by decide +kernel))
    | 1, _ => exact va_eqt (z := -1) (hgd (.eq (.elem (.static "HandBeasts$Hands" "STEP_Y" "[I") (.int (1))) (.int (-1))) (by decide +kernel))
    | 2, _ => exact va_eqt (z := 0) (hgd (.eq (.elem (.static "HandBeasts$Hands" "STEP_Y" "[I") (.int (2))) (.int (0))) (by decide +kernel))
    | 3, _ => exact va_eqt (z := 1) (hgd (.eq (.elem (.static "HandBeasts$Hands" "STEP_Y" "[I") (.int (3))) (.int (1))) (by decide +kernel))
    | 4, _ => exact va_eqt (z := 1) (hgd (.eq (.elem (.static "HandBeasts$Hands" "STEP_Y" "[I") (.int (4))) (.int (1))) (by decide +kernel))
    | 5, _ => exact va_eqt (z := 1) (hgd (.eq (.elem (.static "HandBeasts$Hands" "STEP_Y" "[I") (.int (5))) (.int (1))) (by decide +kernel))
    | 6, _ => exact va_eqt (z := 0) (hgd (.eq (.elem (.static "HandBeasts$Hands" "STEP_Y" "[I") (.int (6))) (.int (0))) (by decide +kernel))
    | 7, _ => exact va_eqt (z := -1) (hgd (.eq (.elem (.static "HandBeasts$Hands" "STEP_Y" "[I") (.int (7))) (.int (-1))) (by decide +kernel))
    | j + 8, h => exact absurd h (by omega)) (fun a ha => Nat.not_le.mpr ha)
  have ZY := va_Zof (A := fun q => s.heap.size ≤ q) (hts (.laysStatic "HandBeasts$Hands" "STEP_Y" "[I") (zt3 (List.mem_of_getElem? (i := 174) (by decide +kernel)))) (hts (.initialized "HandBeasts$Hands") (zt1 (List.mem_of_getElem? (i := 6) (by decide +kernel)))) eY (fun a ha => Nat.not_le.mpr ha)
  obtain ⟨c0, s0, n0⟩ := u_known (C := RX0) (T := TX0) (N := 4) (n := 4) htz uwX0 (hts (.instantiable RX0 4) (zt1 (List.mem_of_getElem? (i := 230) (by decide +kernel))))
  obtain ⟨c1, s1, n1⟩ := u_known (C := RX1) (T := TX1) (N := 2) (n := 2) htz uwX1 (hts (.instantiable RX1 2) (zt1 (List.mem_of_getElem? (i := 173) (by decide +kernel))))
  obtain ⟨c2, s2, n2⟩ := u_known (C := RX2) (T := TX2) (N := 11) (n := 11) htz uwX2 (hts (.instantiable RX2 11) (zt1 (List.mem_of_getElem? (i := 90) (by decide +kernel))))
  obtain ⟨c3, s3, n3⟩ := u_known (C := RX3) (T := TX3) (N := 3) (n := 3) htz uwX3 (hts (.instantiable RX3 3) (zt1 (List.mem_of_getElem? (i := 150) (by decide +kernel))))
  obtain ⟨c4, s4, n4⟩ := u_known (C := RX4) (T := TX4) (N := 11) (n := 11) htz uwX4 (hts (.instantiable RX4 11) (zt2 (List.mem_of_getElem? (i := 17) (by decide +kernel))))
  obtain ⟨c5, s5, n5⟩ := u_known (C := RX5) (T := TX5) (N := 8) (n := 8) htz uwX5 (hts (.instantiable RX5 8) (zt1 (List.mem_of_getElem? (i := 167) (by decide +kernel))))
  obtain ⟨c6, s6, n6⟩ := u_known (C := RX6) (T := TX6) (N := 17) (n := 17) htz uwX6 (hts (.instantiable RX6 17) (zt2 (List.mem_of_getElem? (i := 67) (by decide +kernel))))
  obtain ⟨c7, s7, n7⟩ := u_known (C := RX7) (T := TX7) (N := 3) (n := 3) htz uwX7 (hts (.instantiable RX7 3) (zt1 (List.mem_of_getElem? (i := 74) (by decide +kernel))))
  obtain ⟨c8, s8, n8⟩ := u_known (C := RX8) (T := TX8) (N := 2) (n := 2) htz uwX8 (hts (.instantiable RX8 2) (zt1 (List.mem_of_getElem? (i := 56) (by decide +kernel))))
  obtain ⟨c9, s9, n9⟩ := u_known (C := RX9) (T := TX9) (N := 5) (n := 5) htz uwX9 (hts (.instantiable RX9 5) (zt1 (List.mem_of_getElem? (i := 27) (by decide +kernel))))
  obtain ⟨c10, s10, n10⟩ := u_known (C := RX10) (T := TX10) (N := 9) (n := 9) htz uwX10 (hts (.instantiable RX10 9) (zt2 (List.mem_of_getElem? (i := 133) (by decide +kernel))))
  obtain ⟨c11, s11, n11⟩ := u_known (C := RX11) (T := TX11) (N := 18) (n := 18) htz uwX11 (hts (.instantiable RX11 18) (zt1 (List.mem_of_getElem? (i := 19) (by decide +kernel))))
  obtain ⟨c12, s12, n12⟩ := u_known (C := RX12) (T := TX12) (N := 59) (n := 59) htz uwX12 (hts (.instantiable RX12 59) (zt6 (List.mem_of_getElem? (i := 31) (by decide +kernel))))
  obtain ⟨a0, k0, m0, p0, q0, r0⟩ := Cond.arrayClass_spec (hts (.arrayClass .int) (zt1 (List.mem_of_getElem? (i := 53) (by decide +kernel))))
  obtain ⟨a1, k1, m1, p1, q1, r1⟩ := Cond.arrayClass_spec (hts (.arrayClass .byte) (zt2 (List.mem_of_getElem? (i := 130) (by decide +kernel))))
  obtain ⟨a2, k2, m2, p2, q2, r2⟩ := Cond.arrayClass_spec (hts (.arrayClass .boolean) (zt6 (List.mem_of_getElem? (i := 214) (by decide +kernel))))
  obtain ⟨a3, k3, m3, p3, q3, r3⟩ := Cond.arrayClass_spec (hts (.arrayClass .long) (zt2 (List.mem_of_getElem? (i := 131) (by decide +kernel))))
  have o4 := hts (.arrayOver (.object RX8)) (zt1 (List.mem_of_getElem? (i := 55) (by decide +kernel)))
  obtain ⟨m4, a4, k4, u4, -, q4, r4, p4⟩ := Cond.arrayOver_spec o4
  have o5 := hts (.arrayOver (.object RX5)) (zt1 (List.mem_of_getElem? (i := 166) (by decide +kernel)))
  obtain ⟨m5, a5, k5, u5, -, q5, r5, p5⟩ := Cond.arrayOver_spec o5
  have o6 := hts (.arrayOver (.object RX0)) (zt1 (List.mem_of_getElem? (i := 229) (by decide +kernel)))
  obtain ⟨m6, a6, k6, u6, -, q6, r6, p6⟩ := Cond.arrayOver_spec o6
  have o7 := hts (.arrayOver (.array .int)) (zt2 (List.mem_of_getElem? (i := 23) (by decide +kernel)))
  obtain ⟨m7, a7, k7, u7, -, q7, r7, p7⟩ := Stand.arrayOver_specB o7
  have hKc : ∀ (k : Nat) (q : vw_C), vwCl[k]? = some q → u_Kn s q.1 q.2.1 q.2.2 ([c0, c1, c2, c3, c4, c5, c6, c7, c8, c9, c10, c11, c12].getD k 0) ([s0, s1, s2, s3, s4, s5, s6, s7, s8, s9, s10, s11, s12].getD k s0) := by
    intro k q hq
    match k, hq with
    | 0, hq => cases hq; exact n0
    | 1, hq => cases hq; exact n1
    | 2, hq => cases hq; exact n2
    | 3, hq => cases hq; exact n3
    | 4, hq => cases hq; exact n4
    | 5, hq => cases hq; exact n5
    | 6, hq => cases hq; exact n6
    | 7, hq => cases hq; exact n7
    | 8, hq => cases hq; exact n8
    | 9, hq => cases hq; exact n9
    | 10, hq => cases hq; exact n10
    | 11, hq => cases hq; exact n11
    | 12, hq => cases hq; exact n12
    | k + 13, hq => simp [vwCl] at hq
  have hKt : ∀ (k : Nat) (q : ClassId × FieldType), (zty (fun k => [a0, a1, a2, a3, a4, a5, a6, a7].getD k 0))[k]? = some q → ArrOfT s q.1 q.2 ∧ va_RA s q.1 q.2 := by
    intro k q hq
    match k, hq with
    | 0, hq => cases hq; exact ⟨fun _ _ => ⟨(fun _ h => by cases h), k0, q0, m0, r0⟩, p0⟩
    | 1, hq => cases hq; exact ⟨fun _ _ => ⟨(fun _ h => by cases h), k1, q1, m1, r1⟩, p1⟩
    | 2, hq => cases hq; exact ⟨fun _ _ => ⟨(fun _ h => by cases h), k2, q2, m2, r2⟩, p2⟩
    | 3, hq => cases hq; exact ⟨fun _ _ => ⟨(fun _ h => by cases h), k3, q3, m3, r3⟩, p3⟩
    | 4, hq => cases hq; exact ⟨fun _ _ => ⟨(fun _ h => by cases h), k4, q4, m4, r4⟩, k4, m4, q4, r4, u4, p4⟩
    | 5, hq => cases hq; exact ⟨fun _ _ => ⟨(fun _ h => by cases h), k5, q5, m5, r5⟩, k5, m5, q5, r5, u5, p5⟩
    | 6, hq => cases hq; exact ⟨fun _ _ => ⟨(fun _ h => by cases h), k6, q6, m6, r6⟩, k6, m6, q6, r6, u6, p6⟩
    | 7, hq => cases hq; exact ⟨fun _ _ => ⟨(fun _ h => by cases h), k7, q7, m7, r7⟩, p7⟩
    | k + 8, hq => simp [zty] at hq
  obtain ⟨G, hG⟩ : ∃ G : zG, G = (l, ((fun k => [c0, c1, c2, c3, c4, c5, c6, c7, c8, c9, c10, c11, c12].getD k 0), (fun k => [s0, s1, s2, s3, s4, s5, s6, s7, s8, s9, s10, s11, s12].getD k s0)), (fun k => [a0, a1, a2, a3, a4, a5, a6, a7].getD k 0), s.heap.size, fun u => if u = 0 then b else if u = 1 then tX else tY) := ⟨_, rfl⟩
  have gB : zB G = s.heap.size := by rw [hG]; rfl
  have g0 : G.2.2.2.2 0 = b := by rw [hG]; rfl
  have g1 : G.2.2.2.2 1 = tX := by rw [hG]; rfl
  have g2 : G.2.2.2.2 2 = tY := by rw [hG]; rfl
  have gl : G.1 = l := by rw [hG]
  have hK : zK G s := by
    refine ⟨by rw [hG]; exact ⟨hKc, hKt⟩, ⟨?_, ?_, fun q hq => va_Nw.of rfl (hts _ (lw_nst q hq)), ⟨o4, o5, o6⟩, o7⟩, by rw [gB]; exact Nat.le_refl _⟩
    · rw [gB, g1]; exact ⟨ZX, TX⟩
    · rw [gB, g2]; exact ⟨ZY, TY⟩
  have hX : zH G (p, e, s, m, #[Value.ref b], below, meth, c, lw_Z below #[Value.ref b] s) mL_law := ⟨hx, hb, hml, hown, htz, hK, by rw [gB]; exact Nat.le_refl _, fun h => absurd h (by decide +kernel)⟩
  have hscr : zScr G s L xs := ⟨by rw [g0]; exact hXs, by rw [g0]; exact hbl, by rw [g0, gB]; exact hbl⟩
  have hgo := lw_go hX hscr hL (fun lo w H locs hR hS ls hl => va_forget (fun q hq => by have := hS.2.2 q hq; rwa [gB] at this) (by rw [gl]; exact lw_ret hx hb hr hlocks dL_law_1751))
  have hl := lv_entry ([.ref b]) (n := 4) (Nat.le_of_ble_eq_true rfl)
  rw [lg_entry_eq]
  generalize (lg_sl ([.ref b]) ++ List.replicate (4 - (lg_sl ([.ref b])).length) Slot.unset).toArray = ls at hl ⊢
  have hl : lv_has ls 4 [(0, .ref b)] := hl
  have h9 := hgo s.heap [] ⟨fun _ => by rw [gB]; rfl, fun k q h => by simp [zws] at h⟩ va_S.rf ls ⟨hl.1, hl.2.1, fun k v hk hv => by
    match k, hk with
    | 0, hk =>
      cases hk
      have := hl.2.2 (0, .ref b) List.mem_cons_self
      show ls[0]? = some (.val (.ref (G.2.2.2.2 0)))
      rw [g0]
      exact this
    | 1, hk => cases hk; exact absurd rfl hv
    | 2, hk => cases hk; exact absurd rfl hv
    | 3, hk => cases hk; exact absurd rfl hv
    | k + 4, hk => simp at hk⟩
  rw [gl] at h9
  exact h9
