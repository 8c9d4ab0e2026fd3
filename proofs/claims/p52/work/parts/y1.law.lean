theorem nwL_9 : zNw RL 9 11 := ⟨_, _, _, tyX11, rfl, tyX11_ok, uwX11, zin (zt1 (List.mem_of_getElem? (i := 16) (by decide +kernel))) rfl, zin (zt1 (List.mem_of_getElem? (i := 17) (by decide +kernel))) rfl, zin (zt1 (List.mem_of_getElem? (i := 1) (by decide +kernel))) rfl, rfl, by decide +kernel⟩
theorem zgb_f {G : zG} {n : Nat} {w : zW} : zws (zGb G false) n w = zws G n w := rfl
theorem zcm_nil {Wd : Bool → zW} {a : zA3} {n : Nat} (hn : 332 ≤ n) (h : ∀ j, a n j = 0) : zNil (zcm Wd a) n := by
  refine ⟨fun j => ?_, fun j => ?_, fun j => ?_⟩
  · rw [zcm_a hn]
    exact h j
  · show (if n < 166 then _ else if n < 332 then _ else (0 : Int64)) = 0
    rw [if_neg (by omega), if_neg (by omega)]
  · show (if n < 166 then _ else if n < 332 then _ else (none : Option Nat)) = none
    rw [if_neg (by omega), if_neg (by omega)]
theorem zUn_o {n : Nat} (h1 : n ≠ 166) (h2 : n ≠ 336) (h3 : n ≠ 340) : ¬ zUn n := fun q => by
  rcases q with q | q | q
  · exact h1 q
  · exact h2 q
  · exact h3 q
theorem st_1 {G : zG} (H : Heap) (hR : zRep G 1 zv0 H) : zRep (zGb G false) 1 zv0 H := by
  refine ⟨fun _ => ?_, by rw [zWd_b]; decide, fun k q hq => ?_⟩
  · have := hR.1 (zUn_o (by decide) (by decide) (by decide))
    rw [zB_b]
    exact this
  · rw [zgb_f] at hq
    exact hR.2.2 k q hq
theorem st_2 {G : zG} (hW : zWd G = 340) (H H1 : Heap) (hR1 : zRep (zGb G false) 166 zv81 H1) : zRep G 166 zv81 H1 := by
  refine ⟨fun h => absurd (Or.inl rfl) h, by omega, fun k q hq => ?_⟩
  rw [← zgb_f] at hq
  exact hR1.2.2 k q hq
theorem zcell_n {G G' : zG} {w w' : zW} {k k' c : Nat} (h : zsh k = (0, c, 0)) (h' : zsh k' = (0, c, 0)) (hn : zNil w k) (hn' : zNil w' k') : zcell G w k = zcell G' w' k' := by
  rw [zc0 h, zc0 h']
  congr 2
  unfold zfs
  congr 1
  funext j kd
  rw [zfv_nil hn, zfv_nil hn']
theorem st_3 {G : zG} (H : Heap) (hR : zRep G 167 zv81 H) : zRep (zGb G true) 1 zv0 H := by
  refine ⟨fun _ => ?_, by rw [zWd_b]; decide, fun k q hq => ?_⟩
  · have := hR.1 (zUn_o (by decide) (by decide) (by decide))
    rw [zB_b, this]
    rfl
  · have hk : k < 1 := by
      have := (List.getElem?_eq_some_iff.mp hq).1
      rwa [zws_len] at this
    obtain rfl : k = 0 := by omega
    rw [zws_at (by decide)] at hq
    cases hq
    have h := hR.2.2 166 _ (zws_at (by decide))
    rw [zcell_n (G' := zGb G true) (w' := zv0) (k' := 0) (c := 11) (by decide +kernel) (by decide +kernel) (zvn81 166 (by decide)) ⟨fun _ => rfl, fun _ => rfl, fun _ => rfl⟩] at h
    exact h
set_option maxRecDepth 20000 in
theorem st_4 {G : zG} {B : Nat} (hW : zWd G = 340) (hB : B = zB G) (H H1 : Heap) (hR : zRep G 167 zv81 H) (hR1 : zRep (zGb G true) 166 zv81 H1) (hk : ∀ q : Nat, q < H.size → ¬ zA (zGb G true) q → H1[q]? = H[q]?) (hz : H1.size ≤ B + 332) : zRep G 332 (zcm (fun _ => zv81) (fun _ _ => 0)) H1 := by
  have h165 : zB G + 166 + 165 < H1.size := (hR1.2.2 165 _ (zws_at (by decide))).lt
  refine ⟨fun _ => by omega, by omega, fun k q hq => ?_⟩
  have hkn : k < 332 := by
    have := (List.getElem?_eq_some_iff.mp hq).1
    rwa [zws_len] at this
  rw [zws_at hkn] at hq
  cases hq
  by_cases h1 : k < 166
  · have e := zcm_cell (G := G) (Wd := fun _ => zv81) (a := fun _ _ => 0) (b := false) h1
    rw [show zro false + k = k from Nat.zero_add k] at e
    rw [e]
    have h := hR.2.2 k _ (zws_at (by omega))
    refine h.kept (hk _ h.lt ?_)
    intro z
    have z1 : zB G + 166 ≤ zB G + k := z.1
    omega
  · obtain ⟨j, rfl⟩ : ∃ j, k = 166 + j := ⟨k - 166, by omega⟩
    have hj : j < 166 := by omega
    have h := hR1.2.2 j _ (zws_at hj)
    rw [← zcm_cell (G := G) (Wd := fun _ => zv81) (a := fun _ _ => 0) (b := true) hj, zB_b, Nat.add_assoc] at h
    exact h
abbrev nl20 : List Value := [.null, .null, .null, .null, .null, .null, .null, .null, .null, .null, .null, .null, .null]
section LAW
variable {G : zG} {X : zX}
theorem zl_arr {Wd : Bool → zW} {a3 : zA3} {n N pc sl sl' : Nat} {x : Int32} {lo : List Value} (hX : zH G X mL_law) (hs0 : X.2.2.1.heap.size = zB G) (hwd : zWd G = 340) (hn : 332 ≤ n) (hn4 : n < 340) (d : decode mL_law.2.1 pc = .ok (.newarray .int, 2)) (hN : x = nI N) (hN2 : N ≤ 64) (hz : zsh n = (1, 0, N)) (hw : ∀ j, a3 n j = 0) (hs : sl + N = sl') (hsl : Nat.ble sl' 7302250 = true)
    (kk : zk G X mL_law (n + 1) (n + 1) sl' (pc + 2) lo [.ref n] (zcm Wd a3)) : zk G X mL_law n n sl pc lo [.int x] (zcm Wd a3) := by
  subst hN hs
  refine zl_newa1 (at0 := .int) (t := 0) (N := N) hX d aC_int rfl rfl (fun q => absurd (nI_pos' (n := N) (by omega)) (Int32.not_le.mpr q)) (nI_clamp (by omega)) (Nat.le_trans (Nat.mul_le_mul hN2 (Nat.le_refl _)) (by decide)) hs0 rfl (by omega) (by omega) hz (zcm_nil hn hw) ⟨by show n + 1 ≤ 600000; omega, Nat.le_of_ble_eq_true hsl⟩ kk
set_option maxRecDepth 20000 in
theorem lw_go (hX : zH G X mL_law) (hs0 : X.2.2.1.heap.size = zB G) (hwd : zWd G = 340) (hend : ∀ sl lo w, Nat.ble sl 7302250 = true → zk G X mL_law 340 340 sl 1247 lo [.int 1] w) : zk G X mL_law 0 0 0 0 ([.float 0, .null, .null, .null, .null, .null, .null] ++ nl20) [] zv0 := by
  refine zk_new hX dL_law_0 nwL_9 (by decide) rfl ⟨fun _ => rfl, fun _ => rfl, fun _ => rfl⟩ ⟨by decide, by decide⟩ ?_
  refine zk_nr2 (n' := 1) (cells' := 1) (slots' := 18) (w' := zv0) (st' := [.ref 0]) rfl rfl rfl rfl rfl ?_
  refine zk_dup hX dL_law_3 rfl ?_
  refine zl_callI (a := 0) (M' := mX11_init) (b := false) (wc := zv0) (w1 := zv81) (n' := 166) (w' := zv81) hX rfl dL_law_4 kcX11_init mlL_63 imX11_init ⟨rfl, rfl⟩ rfl s_X11_init (by rw [hwd]; decide) (Nat.le_of_ble_eq_true rfl) ⟨by decide, by decide⟩ st_1 (fun H H1 _ h2 _ _ => st_2 hwd H H1 h2) ?_
  refine zk_nr2 (n' := 166) (cells' := 166) (slots' := 34554) (w' := zv81) (st' := [.ref 0]) rfl rfl rfl rfl rfl ?_
  refine zk_astore_n (lo' := [_, .ref 0, .null, .null, .null, .null, .null] ++ nl20) hX dL_law_7 (Nat.le_of_ble_eq_true rfl) rfl rfl ?_
  refine zl_new hX dL_law_8 nwL_9 hs0 rfl (by decide) (by rw [hwd]; decide) rfl (zvn81 166 (by decide)) ⟨by decide, by decide⟩ ?_
  refine zk_nr2 (n' := 167) (cells' := 167) (slots' := 34572) (w' := zv81) (st' := [.ref 166]) rfl rfl rfl rfl rfl ?_
  refine zk_dup hX dL_law_11 rfl ?_
  refine zl_callI (a := 0) (M' := mX11_init) (b := true) (wc := zv0) (w1 := zv81) (n' := 332) (w' := zcm (fun _ => zv81) (fun _ _ => 0)) hX rfl dL_law_12 kcX11_init mlL_63 imX11_init ⟨rfl, rfl⟩ rfl s_X11_init (by rw [hwd]; decide) (Nat.le_of_ble_eq_true rfl) ⟨by decide, by decide⟩ st_3 (fun H H1 h1 h2 h3 h4 => st_4 hwd hs0 H H1 h1 h2 h3 h4) ?_
  refine zk_nr2 (n' := 332) (cells' := 332) (slots' := 69108) (w' := zcm (fun _ => zv81) (fun _ _ => 0)) (st' := [.ref 166]) rfl rfl rfl rfl rfl ?_
  refine zk_astore_n (lo' := [_, _, .ref 166, .null, .null, .null, .null] ++ nl20) hX dL_law_15 (Nat.le_of_ble_eq_true rfl) rfl rfl ?_
  refine zk_bipush (v := 64) hX dL_law_16 (by decide) ?_
  refine zl_arr (sl' := 69172) hX hs0 hwd (by decide) (by decide) dL_law_18 rfl (Nat.le_refl _) (by decide +kernel) (fun _ => rfl) rfl rfl ?_
  refine zk_astore_n (lo' := [_, _, _, .ref 332, .null, .null, .null] ++ nl20) hX dL_law_20 (Nat.le_of_ble_eq_true rfl) rfl rfl ?_
  refine zk_bipush (v := 64) hX dL_law_21 (by decide) ?_
  refine zl_arr (sl' := 69236) hX hs0 hwd (by decide) (by decide) dL_law_23 rfl (Nat.le_refl _) (by decide +kernel) (fun _ => rfl) rfl rfl ?_
  refine zk_astore (lo' := [_, _, _, _, .ref 333, .null, .null] ++ nl20) hX dL_law_25 (Nat.le_of_ble_eq_true rfl) rfl rfl ?_
  refine zk_bipush (v := 64) hX dL_law_27 (by decide) ?_
  refine zl_arr (sl' := 69300) hX hs0 hwd (by decide) (by decide) dL_law_29 rfl (Nat.le_refl _) (by decide +kernel) (fun _ => rfl) rfl rfl ?_
  refine zk_astore (lo' := [_, _, _, _, _, .ref 334, .null] ++ nl20) hX dL_law_31 (Nat.le_of_ble_eq_true rfl) rfl rfl ?_
  refine zk_bipush (v := 64) hX dL_law_33 (by decide) ?_
  refine zl_arr (sl' := 69364) hX hs0 hwd (by decide) (by decide) dL_law_35 rfl (Nat.le_refl _) (by decide +kernel) (fun _ => rfl) rfl rfl ?_
  refine zk_astore (lo' := [_, _, _, _, _, _, .ref 335] ++ nl20) hX dL_law_37 (Nat.le_of_ble_eq_true rfl) rfl rfl ?_
  refine zk_fload_n hX dL_law_39 rfl ?_
  refine zk_bipush (v := 10) hX dL_law_40 (by decide) ?_
  refine zk_iconst (v := 3) hX dL_law_42 (by decide) ?_
  refine zk_aload_n hX dL_law_43 rfl ?_
  have hn : zLn 336 := Or.inl rfl
  refine zl_callSv (M' := mL_numbers) (As := [_, _, _, _]) hX dL_law_44 kcL_numbers mlL_64 smL_numbers rfl (s_L_numbers hn (ar_332 hn)) rfl rfl (Nat.le_of_ble_eq_true rfl) rfl ⟨Nat.le_of_ble_eq_true rfl, Nat.le_of_ble_eq_true rfl⟩ (fun Wd a1 q => ?_)
  obtain ⟨rfl, q1, D, c, hg, hA⟩ := q
  have hz1 : zr a1 := fun q hq j => by rw [q1 q (by omega)]
  have hJ3 := hg.2.1.2.2
  refine lw_glass (sl := 69364) hX rfl hg (fun a2 v7 hz2 h1 h2 => ?_) a1 hz1 hA
  have hu := zLn_u hn
  have hn2 := zLn_2 hn
  have hsl : Nat.ble 69364 7302250 = true := rfl
  refine zk_aload_n hX dL_law_222 rfl ?_
  refine zk_aload_n hX dL_law_223 rfl ?_
  refine zl_callS (M' := mL_hands) (As := [_, _]) hX dL_law_224 kcL_hands mlL_68 smL_hands rfl (s_L_hands (b := false) hn (ar_332 hn) h1 hg zv_wf zv_114) rfl rfl (Nat.le_of_ble_eq_true rfl) rfl ⟨Nat.le_of_ble_eq_true rfl, Nat.le_of_ble_eq_true hsl⟩ (fun x W1 a3 q => ?_)
  obtain ⟨rfl, rfl, z1, p1⟩ := q
  refine zk_if_eq (tgt := 239) hX dL_law_227 (by decide) (fun c227 => ?_) (fun c227 => ?_)
  · exact absurd c227 (by decide)
  refine zk_aload_n hX dL_law_230 rfl ?_
  refine zk_aload hX dL_law_231 rfl ?_
  refine zl_callS (M' := mL_hands) (As := [_, _]) hX dL_law_233 kcL_hands mlL_68 smL_hands rfl (s_L_hands (b := true) (Wd := W1) hn (ar_333 hn) h2 (gDm_ok hg) (by rw [z1 true (by decide)]; exact zv_wf) (by rw [z1 true (by decide)]; exact zv_114)) rfl rfl (Nat.le_of_ble_eq_true rfl) rfl ⟨Nat.le_of_ble_eq_true rfl, Nat.le_of_ble_eq_true hsl⟩ (fun x W2 a3 q => ?_)
  obtain ⟨rfl, rfl, z2, p2⟩ := q
  rw [z1 true (by decide)] at p2
  refine zk_if_ne (tgt := 241) hX dL_law_236 (by decide) (fun c236 => ?_) (fun c236 => ?_)
  rotate_left
  · exact absurd c236 (by decide)
  obtain ⟨E, e1, o1⟩ := hO_c hJ3 p1
  obtain ⟨E', e2, o2⟩ := hO_c (D9 := gDm D) hJ3 p2
  have hO : ∀ b, Oc (W2 b) ((fun b => match b with | false => E | true => E' : Bool → zD) b) 99 := fun b => by
    cases b with
    | false => rw [z2 false (by decide)]; exact o1
    | true => exact o2
  have hMir : zMir E E' := zMir_e (gDm_mir D) e1 e2
  have hAE : aH (a3 332) E := aH_e h1 e1
  refine zk_bipush (v := 16) hX dL_law_241 (by decide) ?_
  refine zl_arr (N := 16) (sl' := 69380) hX hs0 hwd (by decide) (by decide) dL_law_243 rfl (by decide) (by decide +kernel) (hz2 336 (by decide)) rfl rfl ?_
  refine zk_astore (lo' := lo9 ++ [.ref 336, .null, .null, .null, .null, .null, .null, .null, .null, .null, .null, .null, .null]) hX dL_law_245 (Nat.le_of_ble_eq_true rfl) rfl rfl ?_
  refine zk_bipush (v := 16) hX dL_law_247 (by decide) ?_
  refine zl_arr (N := 16) (sl' := 69396) hX hs0 hwd (by decide) (by decide) dL_law_249 rfl (by decide) (by decide +kernel) (hz2 337 (by decide)) rfl rfl ?_
  refine zk_astore (lo' := lo9 ++ [.ref 336, .ref 337, .null, .null, .null, .null, .null, .null, .null, .null, .null, .null, .null]) hX dL_law_251 (Nat.le_of_ble_eq_true rfl) rfl rfl ?_
  refine zk_bipush (v := 16) hX dL_law_253 (by decide) ?_
  refine zl_arr (N := 16) (sl' := 69412) hX hs0 hwd (by decide) (by decide) dL_law_255 rfl (by decide) (by decide +kernel) (hz2 338 (by decide)) rfl rfl ?_
  refine zk_astore (lo' := lo9 ++ [.ref 336, .ref 337, .ref 338, .null, .null, .null, .null, .null, .null, .null, .null, .null, .null]) hX dL_law_257 (Nat.le_of_ble_eq_true rfl) rfl rfl ?_
  refine zk_bipush (v := 16) hX dL_law_259 (by decide) ?_
  refine zl_arr (N := 16) (sl' := 69428) hX hs0 hwd (by decide) (by decide) dL_law_261 rfl (by decide) (by decide +kernel) (hz2 339 (by decide)) rfl rfl ?_
  refine zk_astore (lo' := loA ++ [.null, .null, .null, .null, .null, .null, .null, .null, .null]) hX dL_law_263 (Nat.le_of_ble_eq_true rfl) rfl rfl ?_
  refine lw_beast (sl := 69428) (Dd := fun b => match b with | false => E | true => E') hX rfl hMir (by rw [e1.1.2.2]; exact hJ3) (fun a4 W4 Mm Yy v11 hA4 hL4 hI4 => ?_) a3 W2 hAE hO
  refine lw_eight (sl := 69428) hX rfl hL4 hA4 (fun W5 w11 w12 w13 w14 w15 hI5 => ?_) W4 v11 hI4
  refine zk_fg (lo' := loA ++ [.null, .null, .null, .null, .null, .null, .null, .null, .null]) (by repeat (first | exact trivial | refine ⟨Or.inr rfl, ?_⟩ | refine ⟨Or.inl rfl, ?_⟩)) ?_
  refine lw_five (sl := 69428) hX rfl hL4 (fun a6 W6 cs6 hI6 hP6 => ?_) a4 W5 _ hA4 hI5
  exact lw_ways (sl := 69428) hX rfl hL4 hP6 (fun lo w => hend 69428 lo w rfl) W6 hI6
end LAW
theorem lw_nst : ∀ q ∈ zNst, Cond.methodLinkNest q.1 q.2.1 q.2.2.1 q.2.2.2 ∈ lw_tbl := by decide +kernel
set_option maxHeartbeats 4000000 in
set_option maxRecDepth 100000 in
theorem whole_start {p : Program} {e : Env} {s : State} {m : MethodId} {below : List Frame} {meth : Method} {c : Code} (l : Launch) (hflags : l.flags = flags0) {b L : Nat} {xs : Nat → Int32} (hL : L ≤ 260) (C0 : lw_At p s m meth c b L xs) : W p l e room_1 s m #[Value.ref b] below meth c s.heap [] 0 0 (lw_Z below #[Value.ref b] s) (entryFrame m ([Value.ref b] : List Value).toArray 20) := by
  obtain ⟨hx, hb, hr, hml, hown, hts, hXs, hbl, hlocks, hgv⟩ := id C0
  have hgd := flat_of_before _ hgv
  have htz : ∀ w ∈ zTB, w.before #[Value.ref b] s = true := fun w hw => hts w (List.mem_filter.mp hw).1
  obtain ⟨tX, eX, TX⟩ := va_Tof (tm := .static "HandBeasts$Hands" "STEP_X" "[I") (ty := .int) (N := 8) (f := fun j => .int (zsX j)) (A := fun q => s.heap.size ≤ q) (by decide) (hgd _ (by decide +kernel)) (va_eqt (hgd _ (by decide +kernel))) (fun j hj => by
    match j, hj with
    | 0, _ => exact va_eqt (z := 0) (hgd (.eq (.elem (.static "HandBeasts$Hands" "STEP_X" "[I") (.int (0))) (.int (0))) (by decide +kernel))
    | 1, _ => exact va_eqt (z := 1) (hgd (.eq (.elem (.static "HandBeasts$Hands" "STEP_X" "[I") (.int (1))) (.int (1))) (by decide +kernel))
    | 2, _ => exact va_eqt (z := 1) (hgd (.eq (.elem (.static "HandBeasts$Hands" "STEP_X" "[I") (.int (2))) (.int (1))) (by decide +kernel))
    | 3, _ => exact va_eqt (z := 1) (hgd (.eq (.elem (.static "HandBeasts$Hands" "STEP_X" "[I") (.int (3))) (.int (1))) (by decide +kernel))
    | 4, _ => exact va_eqt (z := 0) (hgd (.eq (.elem (.static "HandBeasts$Hands" "STEP_X" "[I") (.int (4))) (.int (0))) (by decide +kernel))
    | 5, _ => exact va_eqt (z := -1) (hgd (.eq (.elem (.static "HandBeasts$Hands" "STEP_X" "[I") (.int (5))) (.int (-1))) (by decide +kernel))
    | 6, _ => exact va_eqt (z := -1) (hgd (.eq (.elem (.static "HandBeasts$Hands" "STEP_X" "[I") (.int (6))) (.int (-1))) (by decide +kernel))
    | 7, _ => exact va_eqt (z := -1) (hgd (.eq (.elem (.static "HandBeasts$Hands" "STEP_X" "[I") (.int (7))) (.int (-1))) (by decide +kernel))
    | j + 8, h => exact absurd h (by omega)) (fun a ha => Nat.not_le.mpr ha)
  have ZX := va_Zof (A := fun q => s.heap.size ≤ q) (hts (.laysStatic "HandBeasts$Hands" "STEP_X" "[I") (zt3 (List.mem_of_getElem? (i := 39) (by decide +kernel)))) (hts (.initialized "HandBeasts$Hands") (zt1 (List.mem_of_getElem? (i := 6) (by decide +kernel)))) eX (fun a ha => Nat.not_le.mpr ha)
  obtain ⟨tY, eY, TY⟩ := va_Tof (tm := .static "HandBeasts$Hands" "STEP_Y" "[I") (ty := .int) (N := 8) (f := fun j => .int (zsY j)) (A := fun q => s.heap.size ≤ q) (by decide) (hgd _ (by decide +kernel)) (va_eqt (hgd _ (by decide +kernel))) (fun j hj => by
    match j, hj with
    | 0, _ => exact va_eqt (z := -1) (hgd (.eq (.elem (.static "HandBeasts$Hands" "STEP_Y" "[I") (.int (0))) (.int (-1))) (by decide +kernel))
    | 1, _ => exact va_eqt (z := -1) (hgd (.eq (.elem (.static "HandBeasts$Hands" "STEP_Y" "[I") (.int (1))) (.int (-1))) (by decide +kernel))
    | 2, _ => exact va_eqt (z := 0) (hgd (.eq (.elem (.static "HandBeasts$Hands" "STEP_Y" "[I") (.int (2))) (.int (0))) (by decide +kernel))
    | 3, _ => exact va_eqt (z := 1) (hgd (.eq (.elem (.static "HandBeasts$Hands" "STEP_Y" "[I") (.int (3))) (.int (1))) (by decide +kernel))
    | 4, _ => exact va_eqt (z := 1) (hgd (.eq (.elem (.static "HandBeasts$Hands" "STEP_Y" "[I") (.int (4))) (.int (1))) (by decide +kernel))
    | 5, _ => exact va_eqt (z := 1) (hgd (.eq (.elem (.static "HandBeasts$Hands" "STEP_Y" "[I") (.int (5))) (.int (1))) (by decide +kernel))
    | 6, _ => exact va_eqt (z := 0) (hgd (.eq (.elem (.static "HandBeasts$Hands" "STEP_Y" "[I") (.int (6))) (.int (0))) (by decide +kernel))
    | 7, _ => exact va_eqt (z := -1) (hgd (.eq (.elem (.static "HandBeasts$Hands" "STEP_Y" "[I") (.int (7))) (.int (-1))) (by decide +kernel))
    | j + 8, h => exact absurd h (by omega)) (fun a ha => Nat.not_le.mpr ha)
  have ZY := va_Zof (A := fun q => s.heap.size ≤ q) (hts (.laysStatic "HandBeasts$Hands" "STEP_Y" "[I") (zt3 (List.mem_of_getElem? (i := 41) (by decide +kernel)))) (hts (.initialized "HandBeasts$Hands") (zt1 (List.mem_of_getElem? (i := 6) (by decide +kernel)))) eY (fun a ha => Nat.not_le.mpr ha)
  obtain ⟨c0, s0, n0⟩ := u_known (C := RX0) (T := TX0) (N := 4) (n := 4) htz uwX0 (hts (.instantiable RX0 4) (zt1 (List.mem_of_getElem? (i := 210) (by decide +kernel))))
  obtain ⟨c1, s1, n1⟩ := u_known (C := RX1) (T := TX1) (N := 2) (n := 2) htz uwX1 (hts (.instantiable RX1 2) (zt1 (List.mem_of_getElem? (i := 158) (by decide +kernel))))
  obtain ⟨c2, s2, n2⟩ := u_known (C := RX2) (T := TX2) (N := 11) (n := 11) htz uwX2 (hts (.instantiable RX2 11) (zt1 (List.mem_of_getElem? (i := 83) (by decide +kernel))))
  obtain ⟨c3, s3, n3⟩ := u_known (C := RX3) (T := TX3) (N := 3) (n := 3) htz uwX3 (hts (.instantiable RX3 3) (zt1 (List.mem_of_getElem? (i := 135) (by decide +kernel))))
  obtain ⟨c4, s4, n4⟩ := u_known (C := RX4) (T := TX4) (N := 11) (n := 11) htz uwX4 (hts (.instantiable RX4 11) (zt1 (List.mem_of_getElem? (i := 233) (by decide +kernel))))
  obtain ⟨c5, s5, n5⟩ := u_known (C := RX5) (T := TX5) (N := 8) (n := 8) htz uwX5 (hts (.instantiable RX5 8) (zt1 (List.mem_of_getElem? (i := 152) (by decide +kernel))))
  obtain ⟨c6, s6, n6⟩ := u_known (C := RX6) (T := TX6) (N := 17) (n := 17) htz uwX6 (hts (.instantiable RX6 17) (zt2 (List.mem_of_getElem? (i := 33) (by decide +kernel))))
  obtain ⟨c7, s7, n7⟩ := u_known (C := RX7) (T := TX7) (N := 3) (n := 3) htz uwX7 (hts (.instantiable RX7 3) (zt1 (List.mem_of_getElem? (i := 67) (by decide +kernel))))
  obtain ⟨c8, s8, n8⟩ := u_known (C := RX8) (T := TX8) (N := 2) (n := 2) htz uwX8 (hts (.instantiable RX8 2) (zt1 (List.mem_of_getElem? (i := 49) (by decide +kernel))))
  obtain ⟨c9, s9, n9⟩ := u_known (C := RX9) (T := TX9) (N := 5) (n := 5) htz uwX9 (hts (.instantiable RX9 5) (zt1 (List.mem_of_getElem? (i := 25) (by decide +kernel))))
  obtain ⟨c10, s10, n10⟩ := u_known (C := RX10) (T := TX10) (N := 9) (n := 9) htz uwX10 (hts (.instantiable RX10 9) (zt2 (List.mem_of_getElem? (i := 99) (by decide +kernel))))
  obtain ⟨c11, s11, n11⟩ := u_known (C := RX11) (T := TX11) (N := 18) (n := 18) htz uwX11 (hts (.instantiable RX11 18) (zt1 (List.mem_of_getElem? (i := 17) (by decide +kernel))))
  obtain ⟨a0, k0, m0, p0, q0, r0⟩ := Cond.arrayClass_spec (hts (.arrayClass .int) (zt1 (List.mem_of_getElem? (i := 46) (by decide +kernel))))
  obtain ⟨a1, k1, m1, p1, q1, r1⟩ := Cond.arrayClass_spec (hts (.arrayClass .byte) (zt2 (List.mem_of_getElem? (i := 96) (by decide +kernel))))
  obtain ⟨a3, k3, m3, p3, q3, r3⟩ := Cond.arrayClass_spec (hts (.arrayClass .long) (zt2 (List.mem_of_getElem? (i := 97) (by decide +kernel))))
  have o4 := hts (.arrayOver (.object RX8)) (zt1 (List.mem_of_getElem? (i := 48) (by decide +kernel)))
  obtain ⟨m4, a4, k4, u4, -, q4, r4, p4⟩ := Cond.arrayOver_spec o4
  have o5 := hts (.arrayOver (.object RX5)) (zt1 (List.mem_of_getElem? (i := 151) (by decide +kernel)))
  obtain ⟨m5, a5, k5, u5, -, q5, r5, p5⟩ := Cond.arrayOver_spec o5
  have o6 := hts (.arrayOver (.object RX0)) (zt1 (List.mem_of_getElem? (i := 209) (by decide +kernel)))
  obtain ⟨m6, a6, k6, u6, -, q6, r6, p6⟩ := Cond.arrayOver_spec o6
  have o7 := hts (.arrayOver (.array .int)) (zt1 (List.mem_of_getElem? (i := 239) (by decide +kernel)))
  obtain ⟨m7, a7, k7, u7, -, q7, r7, p7⟩ := Stand.arrayOver_specB o7
  have hKc : ∀ (k : Nat) (q : vw_C), vwCl[k]? = some q → u_Kn s q.1 q.2.1 q.2.2 ([c0, c1, c2, c3, c4, c5, c6, c7, c8, c9, c10, c11].getD k 0) ([s0, s1, s2, s3, s4, s5, s6, s7, s8, s9, s10, s11].getD k s0) := by
    intro k q hq
    match k, hq with
    | 0, hq => cases hq; exact n0
    | 1, hq => cases hq; exact n1
    | 2, hq => cases hq; exact n2
    | 3, hq => cases hq; exact n3
    | 4, hq => cases hq; exact n4
    | 5, hq => cases hq; exact n5
    | 6, hq => cases hq; exact n6
    | 7, hq => cases hq; exact n7
    | 8, hq => cases hq; exact n8
    | 9, hq => cases hq; exact n9
    | 10, hq => cases hq; exact n10
    | 11, hq => cases hq; exact n11
    | k + 12, hq => simp [vwCl] at hq
  have hKt : ∀ (k : Nat) (q : ClassId × FieldType), (zty (fun k => [a0, a1, a0, a3, a4, a5, a6, a7].getD k 0))[k]? = some q → ArrOfT s q.1 q.2 ∧ va_RA s q.1 q.2 := by
    intro k q hq
    match k, hq with
    | 0, hq => cases hq; exact ⟨fun _ _ => ⟨(fun _ h => by cases h), k0, q0, m0, r0⟩, p0⟩
    | 1, hq => cases hq; exact ⟨fun _ _ => ⟨(fun _ h => by cases h), k1, q1, m1, r1⟩, p1⟩
    | 2, hq => cases hq; exact ⟨fun _ _ => ⟨(fun _ h => by cases h), k0, q0, m0, r0⟩, p0⟩
    | 3, hq => cases hq; exact ⟨fun _ _ => ⟨(fun _ h => by cases h), k3, q3, m3, r3⟩, p3⟩
    | 4, hq => cases hq; exact ⟨fun _ _ => ⟨(fun _ h => by cases h), k4, q4, m4, r4⟩, k4, m4, q4, r4, u4, p4⟩
    | 5, hq => cases hq; exact ⟨fun _ _ => ⟨(fun _ h => by cases h), k5, q5, m5, r5⟩, k5, m5, q5, r5, u5, p5⟩
    | 6, hq => cases hq; exact ⟨fun _ _ => ⟨(fun _ h => by cases h), k6, q6, m6, r6⟩, k6, m6, q6, r6, u6, p6⟩
    | 7, hq => cases hq; exact ⟨fun _ _ => ⟨(fun _ h => by cases h), k7, q7, m7, r7⟩, p7⟩
    | k + 8, hq => simp [zty] at hq
  obtain ⟨G, hG⟩ : ∃ G : zG, G = (l, ((fun k => [c0, c1, c2, c3, c4, c5, c6, c7, c8, c9, c10, c11].getD k 0), (fun k => [s0, s1, s2, s3, s4, s5, s6, s7, s8, s9, s10, s11].getD k s0)), (fun k => [a0, a1, a0, a3, a4, a5, a6, a7].getD k 0), s.heap.size, fun u => if u = 0 then b else if u = 1 then tX else if u = 2 then tY else 340) := ⟨_, rfl⟩
  have gB : zB G = s.heap.size := by rw [hG]; rfl
  have g0 : G.2.2.2.2 0 = b := by rw [hG]; rfl
  have g1 : G.2.2.2.2 1 = tX := by rw [hG]; rfl
  have g2 : G.2.2.2.2 2 = tY := by rw [hG]; rfl
  have g9 : zWd G = 340 := by rw [hG]; rfl
  have gl : G.1 = l := by rw [hG]
  have gA : ∀ q, zA G q → s.heap.size ≤ q := fun q hq => by
    have := hq.1
    rwa [gB] at this
  have hK : zK G s := by
    refine ⟨by rw [hG]; exact ⟨hKc, hKt⟩, ⟨?_, ?_, fun q hq => va_Nw.of rfl (hts _ (lw_nst q hq)), ⟨o4, o5, o6⟩, o7⟩, by rw [gB]; exact Nat.le_refl _, by rw [g9]; decide, L, xs, hL, by rw [g0]; exact hXs, by rw [g0]; exact hbl, fun q => absurd (gA _ q) (by rw [g0]; exact Nat.not_le.mpr hbl)⟩
    · rw [g1]
      exact ⟨zZ_sub gA ZX, zT_sub gA TX⟩
    · rw [g2]
      exact ⟨zZ_sub gA ZY, zT_sub gA TY⟩
  have hX : zH G (p, e, s, m, #[Value.ref b], below, meth, c, lw_Z below #[Value.ref b] s) mL_law := ⟨hx, hb, hml, hown, htz, hK, by rw [gB]; exact Nat.le_refl _, fun h => absurd h (by decide +kernel)⟩
  have hgo := lw_go hX gB.symm g9 (fun sl lo w hsl H locs hR hS ls hl => W.widen (k := 600000) (n := 7302250) (by decide) (Nat.le_of_ble_eq_true hsl) (va_forget (fun q hq => gA _ (hS.2.2 q hq)) (by rw [gl]; exact lw_ret hx hb hr hlocks dL_law_1247)))
  have hl := lv_entry ([.ref b]) (n := 20) (Nat.le_of_ble_eq_true rfl)
  rw [lg_entry_eq]
  generalize (lg_sl ([.ref b]) ++ List.replicate (20 - (lg_sl ([.ref b])).length) Slot.unset).toArray = ls at hl ⊢
  have hl : lv_has ls 20 [(0, .ref b)] := hl
  have h9 := hgo s.heap [] ⟨fun _ => by rw [gB]; rfl, Nat.zero_le _, fun k q h => by simp [zws] at h⟩ va_S.rf ls ⟨hl.1, hl.2.1, fun k v hk hv => by
    match k, hk with
    | 0, hk =>
      cases hk
      have := hl.2.2 (0, .ref b) List.mem_cons_self
      show ls[0]? = some (.val (.ref (G.2.2.2.2 0)))
      rw [g0]
      exact this
    | 1, hk => cases hk; exact absurd rfl hv
    | 2, hk => cases hk; exact absurd rfl hv
    | 3, hk => cases hk; exact absurd rfl hv
    | 4, hk => cases hk; exact absurd rfl hv
    | 5, hk => cases hk; exact absurd rfl hv
    | 6, hk => cases hk; exact absurd rfl hv
    | 7, hk => cases hk; exact absurd rfl hv
    | 8, hk => cases hk; exact absurd rfl hv
    | 9, hk => cases hk; exact absurd rfl hv
    | 10, hk => cases hk; exact absurd rfl hv
    | 11, hk => cases hk; exact absurd rfl hv
    | 12, hk => cases hk; exact absurd rfl hv
    | 13, hk => cases hk; exact absurd rfl hv
    | 14, hk => cases hk; exact absurd rfl hv
    | 15, hk => cases hk; exact absurd rfl hv
    | 16, hk => cases hk; exact absurd rfl hv
    | 17, hk => cases hk; exact absurd rfl hv
    | 18, hk => cases hk; exact absurd rfl hv
    | 19, hk => cases hk; exact absurd rfl hv
    | k + 20, hk => simp at hk⟩
  rw [gl] at h9
  exact h9
