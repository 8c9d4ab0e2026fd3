def zLn (n : Nat) : Prop := n = 336 ∨ n = 340
theorem zLn_u {n : Nat} (h : zLn n) : zUn n := Or.inr h
theorem zLn_2 {n : Nat} (h : zLn n) : 332 ≤ n := by
  unfold zLn at h
  omega
theorem ar_332 {n : Nat} (h : zLn n) : zAr n 332 64 := ⟨⟨by decide, by unfold zLn at h; omega⟩, by decide +kernel, by decide⟩
theorem ar_333 {n : Nat} (h : zLn n) : zAr n 333 64 := ⟨⟨by decide, by unfold zLn at h; omega⟩, by decide +kernel, by decide⟩
theorem ar_334 {n : Nat} (h : zLn n) : zAr n 334 64 := ⟨⟨by decide, by unfold zLn at h; omega⟩, by decide +kernel, by decide⟩
theorem ar_335 {n : Nat} (h : zLn n) : zAr n 335 64 := ⟨⟨by decide, by unfold zLn at h; omega⟩, by decide +kernel, by decide⟩
theorem ar_336 {n : Nat} (h : n = 340) : zAr n 336 16 := ⟨⟨by decide, by omega⟩, by decide +kernel, by decide⟩
theorem ar_337 {n : Nat} (h : n = 340) : zAr n 337 16 := ⟨⟨by decide, by omega⟩, by decide +kernel, by decide⟩
theorem ar_338 {n : Nat} (h : n = 340) : zAr n 338 16 := ⟨⟨by decide, by omega⟩, by decide +kernel, by decide⟩
theorem ar_339 {n : Nat} (h : n = 340) : zAr n 339 16 := ⟨⟨by decide, by omega⟩, by decide +kernel, by decide⟩
theorem zu3_s {a : zA3} {k j : Nat} {x : Int32} : zu3 a k j x k j = x := if_pos ⟨rfl, rfl⟩
theorem zu3_n {a : zA3} {k j i : Nat} {x : Int32} (h : i ≠ j) : zu3 a k j x k i = a k i := if_neg (fun q => h q.2)
theorem zu3_k {a : zA3} {k j c : Nat} {x : Int32} (h : c ≠ k) : zu3 a k j x c = a c := funext fun i => if_neg (fun q => h q.1)
/-- what is masked to 28 bits -/
theorem zmk28 (x : Int32) : ∃ m, m < 268435456 ∧ x &&& 268435455 = nI m := by
  refine ⟨x.toBitVec.toNat % 268435456, Nat.mod_lt _ (by decide), ?_⟩
  apply Int32.toBitVec_inj.mp
  rw [nI_bv, Int32.toBitVec_and]
  apply BitVec.eq_of_toNat_eq
  rw [BitVec.toNat_and, BitVec.toNat_ofNat, show (268435455 : Int32).toBitVec.toNat = 2 ^ 28 - 1 from by decide, Nat.and_two_pow_sub_one_eq_mod]
  omega
section ZH
variable {G : zG} {n : Nat} {Wd : Bool → zW} {a3 : zA3} {b : Bool}
theorem s_L_cell {k : Nat} (hk : k ≤ 100) : zDi G n mL_cell [.float 0, .int (nI k)] Wd a3 (fun r Wd1 a1 => (Wd1 = Wd ∧ a1 = a3) ∧ ∃ m, m < 268435456 ∧ r = nI m) := by
  refine zC_of (lo := [_, _]) kcL_cell (Nat.le_of_ble_eq_true rfl) rfl (fun X hX hE => ?_)
  obtain ⟨L, xs, hL, hs⟩ := hX.2.2.2.2.2.1.2.2.2.2
  refine zk_iload_n hX dL_cell_0 rfl ?_
  refine zk_fload_n hX dL_cell_1 rfl ?_
  refine zk_slen hX hs dL_cell_2 ?_
  refine zk_icmp_ge (tgt := 15) hX dL_cell_3 (by decide) (fun c3 => ?_) (fun c3 => ?_)
  · refine zk_bipush (v := 61) hX dL_cell_15 (by decide) ?_
    refine zk_iload_n hX dL_cell_17 rfl ?_
    refine zk_imul hX dL_cell_18 ?_
    refine zk_bipush (v := 7) hX dL_cell_19 (by decide) ?_
    refine zk_iadd hX dL_cell_21 ?_
    refine zk_iload_n hX dL_cell_22 rfl ?_
    refine zk_iconst (v := 3) hX dL_cell_23 (by decide) ?_
    refine zk_iadd hX dL_cell_24 ?_
    refine zk_imul hX dL_cell_25 ?_
    refine zk_iret hX hE rfl ⟨rfl, rfl⟩ dL_cell_26 ⟨_, rfl, _, _, rfl, ?_⟩
    first
      | (obtain ⟨m, h1, h2⟩ := zmk28 (xs (nI k).toNatClampNeg)
         exact ⟨⟨rfl, rfl⟩, m, h1, h2⟩)
      | (refine ⟨⟨rfl, rfl⟩, (61 * k + 7) * (k + 3), Nat.lt_of_le_of_lt (Nat.mul_le_mul (show 61 * k + 7 ≤ 6107 by omega) (show k + 3 ≤ 103 by omega)) (by decide), ?_⟩
         exact nI_mulE (nI_addE (nI_mulE rfl rfl) rfl) (nI_addE rfl rfl))
  · have hkL : k < L := nI_ltD c3 (by omega) (by omega)
    refine zk_fload_n hX dL_cell_6 rfl ?_
    refine zk_iload_n hX dL_cell_7 rfl ?_
    refine zk_sld hX hs dL_cell_8 (by exact vp_in_nI hkL (by omega)) ?_
    refine zk_ldc hX dL_cell_9 cnL_7 ?_
    refine zk_iand hX dL_cell_11 ?_
    refine zk_goto (tgt := 26) hX dL_cell_12 (by decide) ?_
    refine zk_iret hX hE rfl ⟨rfl, rfl⟩ dL_cell_26 ⟨_, rfl, _, _, rfl, ?_⟩
    first
      | (obtain ⟨m, h1, h2⟩ := zmk28 (xs (nI k).toNatClampNeg)
         exact ⟨⟨rfl, rfl⟩, m, h1, h2⟩)
      | (refine ⟨⟨rfl, rfl⟩, (61 * k + 7) * (k + 3), Nat.lt_of_le_of_lt (Nat.mul_le_mul (show 61 * k + 7 ≤ 6107 by omega) (show k + 3 ≤ 103 by omega)) (by decide), ?_⟩
         exact nI_mulE (nI_addE (nI_mulE rfl rfl) rfl) (nI_addE rfl rfl))
theorem s_L_tells {x : Int32} (hn : zLn n) (hw : zWf (Wd b)) : zDi G n mL_tells [.ref (zro b), .int x] Wd a3 (fun r Wd1 a1 => (Wd1 = Wd ∧ a1 = a3) ∧ r = if x = 1 then (Wd b).1 1 0 else -7777) := by
  have hu := zLn_u hn
  have hn2 := zLn_2 hn
  have e9 : zub Wd b (Wd b) = Wd := funext fun c => by
    by_cases h : c = b
    · subst h; exact zub_s
    · exact zub_o h
  refine zC_of (lo := [_, _]) kcL_tells (Nat.le_of_ble_eq_true rfl) rfl (fun X hX hE => ?_)
  refine zk_iload_n hX dL_tells_0 rfl ?_
  refine zk_iconst (v := 1) hX dL_tells_1 (by decide) ?_
  refine zk_icmp_ne (tgt := 12) hX dL_tells_2 (by decide) (fun c2 => ?_) (fun c2 => ?_)
  · refine zk_sipush (v := -7777) hX dL_tells_12 (by decide) ?_
    refine zk_iret hX hE rfl ⟨rfl, rfl⟩ dL_tells_15 ⟨_, rfl, _, _, rfl, ?_⟩
    first
      | (rw [e9]
         exact ⟨⟨rfl, rfl⟩, (if_pos (by first | exact c2 | exact Decidable.not_not.mp c2)).symm⟩)
      | exact ⟨⟨rfl, rfl⟩, (if_neg c2).symm⟩
  · refine zk_aload_n hX dL_tells_5 rfl ?_
    refine zl_callV (M' := mX11_asked) (As := []) (b := b) hX hu hn2 dL_tells_6 kcX11_asked mlL_56 viX11_asked rfl (s_X11_asked (G := zGb G b) hw) rfl rfl rfl (Nat.le_of_ble_eq_true rfl) rfl ⟨Nat.le_of_ble_eq_true rfl, Nat.le_of_ble_eq_true rfl⟩ (fun r w1 q => ?_)
    obtain ⟨rfl, rfl⟩ := q
    refine zk_goto (tgt := 15) hX dL_tells_9 (by decide) ?_
    refine zk_iret hX hE rfl ⟨rfl, rfl⟩ dL_tells_15 ⟨_, rfl, _, _, rfl, ?_⟩
    first
      | (rw [e9]
         exact ⟨⟨rfl, rfl⟩, (if_pos (by first | exact c2 | exact Decidable.not_not.mp c2)).symm⟩)
      | exact ⟨⟨rfl, rfl⟩, (if_neg c2).symm⟩
/-- a row of twelve the other way round, by its bits -/
def zgl (s : Nat) : Nat := zbits (fun x => s.testBit (11 - x)) 12
def zglI (s : Int32) : Nat → Int32
  | 0 => 0
  | k + 1 => zglI s k ||| ((s >>> (nI k &&& 31)) &&& 1) <<< ((11 - nI k) &&& 31)
theorem s_L_glass {s : Int32} : zDi G n mL_glass [.int s] Wd a3 (fun r Wd1 a1 => (Wd1 = Wd ∧ a1 = a3) ∧ r = zglI s 12) := by
  refine zC_of (lo := [_, _, _]) kcL_glass (Nat.le_of_ble_eq_true rfl) rfl (fun X hX hE => ?_)
  have loop : ∀ z k, k + z = 12 → zk G X mL_glass n 0 0 4 [.int s, .int (zglI s k), .int (nI k)] [] (zcm Wd a3) := by
    intro z
    induction z with
    | zero =>
      intro k hk
      obtain rfl : k = 12 := by omega
      refine zk_iload_n hX dL_glass_4 rfl ?_
      refine zk_bipush (v := 12) hX dL_glass_5 (by decide) ?_
      refine zk_icmp_ge (tgt := 29) hX dL_glass_7 (by decide) (fun c7 => ?_) (fun c7 => ?_)
      rotate_left
      · exact absurd (by decide) c7
      refine zk_iload_n hX dL_glass_29 rfl ?_
      refine zk_iret hX hE rfl ⟨rfl, rfl⟩ dL_glass_30 ⟨_, rfl, _, _, rfl, ?_⟩
      exact ⟨⟨rfl, rfl⟩, rfl⟩
    | succ z ih =>
      intro k hk
      have h0 := ih (k + 1) (by omega)
      refine zk_iload_n hX dL_glass_4 rfl ?_
      refine zk_bipush (v := 12) hX dL_glass_5 (by decide) ?_
      refine zk_icmp_ge (tgt := 29) hX dL_glass_7 (by decide) (fun c7 => ?_) (fun c7 => ?_)
      · exact absurd c7 (nI_ge (show k < 12 by omega) (by decide))
      refine zk_iload_n hX dL_glass_10 rfl ?_
      refine zk_iload_n hX dL_glass_11 rfl ?_
      refine zk_iload_n hX dL_glass_12 rfl ?_
      refine zk_ishr hX dL_glass_13 ?_
      refine zk_iconst (v := 1) hX dL_glass_14 (by decide) ?_
      refine zk_iand hX dL_glass_15 ?_
      refine zk_bipush (v := 11) hX dL_glass_16 (by decide) ?_
      refine zk_iload_n hX dL_glass_18 rfl ?_
      refine zk_isub hX dL_glass_19 ?_
      refine zk_ishl hX dL_glass_20 ?_
      refine zk_ior hX dL_glass_21 ?_
      refine zk_istore_n (lo' := [_, _, _]) hX dL_glass_22 (Nat.le_of_ble_eq_true rfl) rfl rfl ?_
      refine zk_iinc (lo' := [_, _, _]) hX dL_glass_23 rfl (by first | exact zinc _ | exact rfl) (Nat.le_of_ble_eq_true rfl) rfl rfl ?_
      refine zk_goto (tgt := 4) hX dL_glass_26 (by decide) ?_
      exact h0
  refine zk_iconst (v := 0) hX dL_glass_0 (by decide) ?_
  refine zk_istore_n (lo' := [_, _, _]) hX dL_glass_1 (Nat.le_of_ble_eq_true rfl) rfl rfl ?_
  refine zk_iconst (v := 0) hX dL_glass_2 (by decide) ?_
  refine zk_istore_n (lo' := [_, _, _]) hX dL_glass_3 (Nat.le_of_ble_eq_true rfl) rfl rfl ?_
  exact loop 12 0 rfl
/-- text 3 as it is being told -/
def tX (w : zW) (l : List Nat) : Prop := w.1 23 0 = nI 60 ∧ ∀ i, i < 60 → w.1 24 i = nI (l.getD i 32)
/-- all but the text's places -/
def tF (w w' : zW) : Prop := (∀ k, k ≠ 24 → w'.1 k = w.1 k) ∧ w'.2 = w.2
theorem tF_r (w : zW) : tF w w := ⟨fun _ _ => rfl, rfl⟩
theorem tF_t {w w1 w2 : zW} (h : tF w w1) (h2 : tF w1 w2) : tF w w2 := ⟨fun k hk => (h2.1 k hk).trans (h.1 k hk), h2.2.trans h.2⟩
theorem tF_wf {w w1 : zW} (h : tF w w1) (hw : zWf w) : zWf w1 := zWf_of hw (by rw [h.2])
def zot (Wd Wd1 : Bool → zW) (b : Bool) : Prop := ∀ c, c ≠ b → Wd1 c = Wd c
theorem zot_r (Wd : Bool → zW) (b : Bool) : zot Wd Wd b := fun _ _ => rfl
theorem zot_t {Wd Wd1 Wd2 : Bool → zW} {b : Bool} (h : zot Wd Wd1 b) (h2 : zot Wd1 Wd2 b) : zot Wd Wd2 b := fun c hc => (h2 c hc).trans (h c hc)
theorem zot_u {Wd : Bool → zW} {b : Bool} {w : zW} : zot Wd (zub Wd b w) b := fun _ hc => zub_o hc
theorem zget_t {w : zW} {l : List Nat} {p : Nat} (h : tX w l) (hp : p < 60) : zRget w 23 (nI p) = nI (l.getD p 32) := by
  unfold zRget
  rw [h.1, if_pos ⟨nI_pos' (by omega), nI_lt hp (by omega)⟩, nI_clamp (by omega)]
  exact h.2 p hp
theorem zbyte {c : Nat} (h : c < 128) : (nI c).toInt8.toInt32 = nI c := (by decide +kernel : ∀ c, c < 128 → (nI c).toInt8.toInt32 = nI c) c h
theorem s_L_put {l : List Nat} {c : Nat} (hn : zLn n) (hw : zWf (Wd b)) (hT : tX (Wd b) l) (hl : l.length < 60) (hc : c < 128) : zDi G n mL_put [.ref (zro b), .int (nI l.length), .int (nI c)] Wd a3 (fun r Wd1 a1 => a1 = a3 ∧ r = nI (l.length + 1) ∧ zot Wd Wd1 b ∧ tF (Wd b) (Wd1 b) ∧ tX (Wd1 b) (l ++ [c])) := by
  have hu := zLn_u hn
  have hn2 := zLn_2 hn
  have h9 : zRget (Wd b) 23 (nI l.length) = 32 := by
    rw [zget_t hT hl]
    simp [List.getD_eq_getElem?_getD]
    rfl
  have e9 : c_put (Wd b) 3 (nI l.length) (nI c) = (1032, zsi (Wd b) 24 l.length (nI c)) := by
    unfold c_put
    rw [show 17 + 2 * 3 = 23 from rfl, show 18 + 2 * 3 = 24 from rfl, hT.1, if_neg (fun q => q (by decide)), if_neg (fun q => q ⟨nI_pos' (by omega), nI_lt hl (by omega)⟩), h9, zbyte hc, nI_clamp (by omega)]
    rfl
  have hP := s_X11_put (G := zGb G b) hw (r := 3) (by decide) (Or.inr ⟨60, by decide, hT.1⟩) (nI l.length) (nI c)
  rw [zFi, e9] at hP
  refine zC_of (lo := [_, _, _]) kcL_put (Nat.le_of_ble_eq_true rfl) rfl (fun X hX hE => ?_)
  refine zk_iload_n hX dL_put_0 rfl ?_
  refine zk_if_lt (tgt := 23) hX dL_put_1 (by decide) (fun c1 => ?_) (fun c1 => ?_)
  · exact absurd c1 (fun q => absurd (nI_pos' (n := l.length) (by omega)) (Int32.not_le.mpr q))
  refine zk_aload_n hX dL_put_4 rfl ?_
  refine zk_iconst (v := 3) hX dL_put_5 (by decide) ?_
  refine zk_iload_n hX dL_put_6 rfl ?_
  refine zk_iload_n hX dL_put_7 rfl ?_
  refine zl_callV (M' := mX11_put) (As := [_, _, _]) (b := b) hX hu hn2 dL_put_8 kcX11_put mlL_8 viX11_put rfl hP rfl rfl rfl (Nat.le_of_ble_eq_true rfl) rfl ⟨Nat.le_of_ble_eq_true rfl, Nat.le_of_ble_eq_true rfl⟩ (fun r w1 q => ?_)
  obtain ⟨rfl, rfl⟩ := q
  refine zk_sipush (v := 1032) hX dL_put_11 (by decide) ?_
  refine zk_icmp_ne (tgt := 23) hX dL_put_14 (by decide) (fun c14 => ?_) (fun c14 => ?_)
  · exact absurd rfl c14
  refine zk_iload_n hX dL_put_17 rfl ?_
  refine zk_iconst (v := 1) hX dL_put_18 (by decide) ?_
  refine zk_iadd hX dL_put_19 ?_
  refine zk_goto (tgt := 26) hX dL_put_20 (by decide) ?_
  refine zk_iret hX hE rfl ⟨rfl, rfl⟩ dL_put_26 ⟨_, rfl, _, _, rfl, ?_⟩
  refine ⟨rfl, nI_addE rfl rfl, zot_u, ?_⟩
  rw [zub_s]
  refine ⟨⟨fun k hk => ?_, rfl⟩, ?_, fun i hi => ?_⟩
  · funext i
    rw [zsi_1, if_neg (fun q => hk q.1)]
  · rw [zsi_1, if_neg (fun q => absurd q.1 (by decide))]
    exact hT.1
  · rw [zsi_1]
    by_cases h : i = l.length
    · subst h
      rw [if_pos ⟨rfl, rfl⟩]
      simp
    · rw [if_neg (fun q => h q.2), hT.2 i hi]
      congr 1
      by_cases h2 : i < l.length
      · simp [List.getD_eq_getElem?_getD, List.getElem?_append_left h2]
      · simp [List.getD_eq_getElem?_getD, List.getElem?_append_right (show l.length ≤ i by omega), List.getElem?_eq_none (show l.length ≤ i by omega), List.getElem?_eq_none (show [c].length ≤ i - l.length by simp; omega)]
theorem s_L_number {l : List Nat} {v : Nat} (hn : zLn n) (hw : zWf (Wd b)) (hT : tX (Wd b) l) (hl : l.length < 50) (hv : 10 ≤ v ∧ v < 100) : zDi G n mL_number [.ref (zro b), .int (nI l.length), .int (nI v)] Wd a3 (fun r Wd1 a1 => a1 = a3 ∧ r = nI (l.length + 2) ∧ zot Wd Wd1 b ∧ tF (Wd b) (Wd1 b) ∧ tX (Wd1 b) (l ++ [48 + v / 10, 48 + v % 10])) := by
  have e1 : (48 : Int32) + (nI v / 10 - nI v / 10 / 10 * 10) = nI (48 + v / 10) := by
    rw [show (10 : Int32) = nI 10 from rfl, nI_div (by omega) (by decide), nI_rem (by omega) (by decide), show (48 : Int32) = nI 48 from rfl, nI_add]
    congr 1
    omega
  have e2 : (48 : Int32) + (nI v - nI v / 10 * 10) = nI (48 + v % 10) := by
    rw [show (10 : Int32) = nI 10 from rfl, nI_rem (by omega) (by decide), show (48 : Int32) = nI 48 from rfl, nI_add]
  refine zC_of (lo := [_, _, _, _]) kcL_number (Nat.le_of_ble_eq_true rfl) rfl (fun X hX hE => ?_)
  refine zk_iload_n hX dL_number_0 rfl ?_
  refine zk_bipush (v := 100) hX dL_number_1 (by decide) ?_
  refine zk_icmp_ge (tgt := 10) hX dL_number_3 (by decide) (fun c3 => ?_) (fun c3 => ?_)
  · exact absurd c3 (nI_ge hv.2 (by decide))
  refine zk_iload_n hX dL_number_6 rfl ?_
  refine zk_goto (tgt := 22) hX dL_number_7 (by decide) ?_
  refine zk_istore_n (lo' := [_, _, _, _]) hX dL_number_22 (Nat.le_of_ble_eq_true rfl) rfl rfl ?_
  refine zk_iload_n hX dL_number_23 rfl ?_
  refine zk_bipush (v := 10) hX dL_number_24 (by decide) ?_
  refine zk_icmp_ge (tgt := 33) hX dL_number_26 (by decide) (fun c26 => ?_) (fun c26 => ?_)
  rotate_left
  · exact absurd (nI_le hv.1 (by omega)) c26
  refine zk_aload_n hX dL_number_33 rfl ?_
  refine zk_iload_n hX dL_number_34 rfl ?_
  refine zk_bipush (v := 48) hX dL_number_35 (by decide) ?_
  refine zk_iload_n hX dL_number_37 rfl ?_
  refine zk_bipush (v := 10) hX dL_number_38 (by decide) ?_
  refine zk_idiv hX dL_number_40 (by decide) ?_
  refine zk_bipush (v := 10) hX dL_number_41 (by decide) ?_
  refine zk_irem hX dL_number_43 (by decide) ?_
  refine zk_iadd hX dL_number_44 ?_
  rw [e1]
  refine zl_callS (M' := mL_put) (As := [_, _, _]) hX dL_number_45 kcL_put mlL_14 smL_put rfl (s_L_put hn hw hT (by omega) (by omega)) rfl rfl (Nat.le_of_ble_eq_true rfl) rfl ⟨Nat.le_of_ble_eq_true rfl, Nat.le_of_ble_eq_true rfl⟩ (fun r Wd1 a1 q => ?_)
  obtain ⟨rfl, rfl, q1, q2, q3⟩ := q
  have hw1 := tF_wf q2 hw
  have el : l.length + 1 = (l ++ [48 + v / 10]).length := by simp
  rw [el]
  refine zk_istore_n (lo' := [_, _, _, _]) hX dL_number_48 (Nat.le_of_ble_eq_true rfl) rfl rfl ?_
  refine zk_aload_n hX dL_number_49 rfl ?_
  refine zk_iload_n hX dL_number_50 rfl ?_
  refine zk_bipush (v := 48) hX dL_number_51 (by decide) ?_
  refine zk_iload_n hX dL_number_53 rfl ?_
  refine zk_bipush (v := 10) hX dL_number_54 (by decide) ?_
  refine zk_irem hX dL_number_56 (by decide) ?_
  refine zk_iadd hX dL_number_57 ?_
  rw [e2]
  refine zl_callS (M' := mL_put) (As := [_, _, _]) hX dL_number_58 kcL_put mlL_14 smL_put rfl (s_L_put hn hw1 q3 (by simp; omega) (by omega)) rfl rfl (Nat.le_of_ble_eq_true rfl) rfl ⟨Nat.le_of_ble_eq_true rfl, Nat.le_of_ble_eq_true rfl⟩ (fun r Wd2 a2 p => ?_)
  obtain ⟨rfl, rfl, p1, p2, p3⟩ := p
  refine zk_iret hX hE rfl ⟨rfl, rfl⟩ dL_number_61 ⟨_, rfl, _, _, rfl, ?_⟩
  refine ⟨rfl, by simp, zot_t q1 p1, tF_t q2 p2, ?_⟩
  rw [List.append_assoc] at p3
  exact p3
end ZH
