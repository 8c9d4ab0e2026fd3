def zhit (z u v a c : Nat) : Bool := decide (z * (a % 12) + u ≤ c % 12 + 3 ∧ c % 12 + 3 < z * (a % 12) + u + z ∧ z * (a / 12) + v ≤ c / 12 + 3 ∧ c / 12 + 3 < z * (a / 12) + v + z)
def zlok (z u v : Nat) : Prop := (1 ≤ z ∧ z ≤ 2) ∧ u ≤ 6 ∧ v ≤ 6
def zLm (w : zW) (a z u v : Nat) : Prop := w.1 a 0 = nI z ∧ w.1 a 1 = nI u - 3 ∧ w.1 a 2 = nI v - 3
theorem zLm_o {w w' : zW} {a z u v : Nat} (h : zLm w a z u v) (e : w'.1 = w.1) : zLm w' a z u v := by
  unfold zLm
  rw [e]
  exact h
/-- which cells a set of the first n cells throws to -/
def zany (P : Nat → Bool) : Nat → Bool
  | 0 => false
  | n + 1 => zany P n || P n
theorem zany_m {P : Nat → Bool} : ∀ {n : Nat}, zany P n = true ↔ ∃ i, i < n ∧ P i = true
  | 0 => ⟨fun h => (by cases h), fun h => h.elim (fun i q => absurd q.1 (by omega))⟩
  | n + 1 => by
    show (zany P n || P n) = true ↔ _
    rw [Bool.or_eq_true, zany_m]
    constructor
    · rintro (⟨i, h, q⟩ | q)
      · exact ⟨i, by omega, q⟩
      · exact ⟨n, by omega, q⟩
    · rintro ⟨i, h, q⟩
      rcases Nat.lt_succ_iff_lt_or_eq.mp h with h | rfl
      · exact Or.inl ⟨i, h, q⟩
      · exact Or.inr q
def zthr (z u v : Nat) (S : zS) : zS := fun c => zany (fun a => S a && zhit z u v a c) 120
theorem zthr_m {z u v : Nat} {S : zS} {c : Nat} : zthr z u v S c = true ↔ ∃ a, a < 120 ∧ S a = true ∧ zhit z u v a c = true := by
  unfold zthr
  rw [zany_m]
  simp only [Bool.and_eq_true]
theorem zthr_un {z u v : Nat} {S T : zS} : zthr z u v (zun S T) = zun (zthr z u v S) (zthr z u v T) := by
  refine zS_ext (fun c => ?_)
  unfold zun
  rw [Bool.or_eq_true, zthr_m, zthr_m, zthr_m]
  simp only [Bool.or_eq_true]
  constructor
  · rintro ⟨a, h1, h2 | h2, h3⟩
    · exact Or.inl ⟨a, h1, h2, h3⟩
    · exact Or.inr ⟨a, h1, h2, h3⟩
  · rintro (⟨a, h1, h2, h3⟩ | ⟨a, h1, h2, h3⟩)
    · exact ⟨a, h1, Or.inl h2, h3⟩
    · exact ⟨a, h1, Or.inr h2, h3⟩
theorem zthr_no {z u v : Nat} : zthr z u v zno = zno := by
  refine zS_ext (fun c => ?_)
  rw [zthr_m]
  simp [zno]
/-- the b-th line of a cell's light -/
def zhl (z u v x y b : Nat) (S : zS) : Nat → Bool := fun c => S c || decide (∃ k, k < b ∧ z * y + v + k = c / 12 + 3 ∧ z * x + u ≤ c % 12 + 3 ∧ c % 12 + 3 < z * x + u + z)
theorem zbar_bit {z s i : Nat} : (((1 <<< z) - 1) <<< s >>> 3).testBit i = decide (s ≤ i + 3 ∧ i + 3 < s + z) := by
  rw [Nat.testBit_shiftRight, Nat.testBit_shiftLeft, Nat.one_shiftLeft, Nat.testBit_two_pow_sub_one]
  by_cases h : s ≤ 3 + i
  · have h1 : (3 + i ≥ s) = True := by simp; omega
    simp only [h1, decide_true, Bool.true_and]
    rw [decide_eq_decide]
    omega
  · have h1 : ¬ 3 + i ≥ s := by omega
    rw [decide_eq_false h1, Bool.false_and, eq_comm, decide_eq_false_iff_not]
    omega
theorem nI_eq3 {a e : Nat} (ha : a < 100) (he : e < 100) : nI a - 3 = nI e ↔ a = e + 3 := by
  constructor
  · intro h
    have h1 : nI a = nI e + 3 := by rw [← h]; grind
    rw [show (3 : Int32) = nI 3 from rfl, nI_add] at h1
    exact (nI_eq (by omega) (by omega)).mp h1
  · intro h
    rw [h, show (3 : Int32) = nI 3 from rfl, nI_sub (by omega)]
    congr 1
theorem zhl_s {z u v x y b c : Nat} {S : zS} (hz : z ≤ 2) (hx : x < 12) (hy : y < 10) (hu : u ≤ 6) (hv : v ≤ 6) (hb : b < z) (hc : c < 120) : zaddl (zhl z u v x y b S) (nI (z * y + v + b) - 3) (((1 <<< z) - 1) <<< (z * x + u) >>> 3) c = zhl z u v x y (b + 1) S c := by
  have hzy : z * y ≤ 2 * 9 := Nat.mul_le_mul hz (by omega)
  unfold zaddl
  rw [zbar_bit, decide_eq_decide.mpr (nI_eq3 (a := z * y + v + b) (e := c / 12) (by omega) (by omega))]
  unfold zhl
  rw [Bool.or_assoc]
  congr 1
  rw [← Bool.decide_and, ← Bool.decide_or, decide_eq_decide]
  constructor
  · rintro (⟨k, h1, h2⟩ | ⟨h1, h2⟩)
    · exact ⟨k, by omega, h2⟩
    · exact ⟨b, by omega, h1, h2⟩
  · rintro ⟨k, h1, h2, h3⟩
    rcases Nat.lt_succ_iff_lt_or_eq.mp h1 with h | rfl
    · exact Or.inl ⟨k, h, h2, h3⟩
    · exact Or.inr ⟨h2, h3⟩
theorem zhl_all {z u v x y c : Nat} {S : zS} (hx : x < 12) (hy : y < 10) : zhl z u v x y z S c = (S c || zhit z u v (12 * y + x) c) := by
  unfold zhl zhit
  congr 1
  rw [show (12 * y + x) % 12 = x by omega, show (12 * y + x) / 12 = y by omega, decide_eq_decide]
  constructor
  · rintro ⟨k, h1, h2, h3, h4⟩
    exact ⟨h3, h4, by omega, by omega⟩
  · rintro ⟨h1, h2, h3, h4⟩
    exact ⟨c / 12 + 3 - (z * y + v), by omega, by omega, h1, h2⟩
theorem zbits_s3 {z s : Nat} (hz : z ≤ 2) (hs : s ≤ 28) : ((1 <<< z) - 1) <<< s < 2 ^ 31 := by
  have h1 : (1 <<< z) - 1 ≤ 3 := by
    rw [Nat.one_shiftLeft]
    have : 2 ^ z ≤ 2 ^ 2 := Nat.pow_le_pow_right (by decide) hz
    omega
  rw [Nat.shiftLeft_eq]
  have h2 : 2 ^ s ≤ 2 ^ 28 := Nat.pow_le_pow_right (by decide) hs
  have h3 : ((1 <<< z) - 1) * 2 ^ s ≤ 3 * 2 ^ 28 := Nat.mul_le_mul h1 h2
  omega
theorem s_X3_throwCell {G : zG} {w : zW} {l k x y z u v : Nat} {S : zS} (hLp : zLp l) (hC : zCe k) (hS : zHas w k S) (hL : zLm w l z u v) (ho : zlok z u v) (hx : x < 12) (hy : y < 10) :
    zEv G mX3_throwCell [.ref l, .int (nI x), .int (nI y), .ref k] w (zsetS w k (fun c => S c || zhit z u v (12 * y + x) c)) := by
  have hz := ho.1.2
  have hzy : z * y ≤ 2 * 9 := Nat.mul_le_mul hz (by omega)
  have hzx : z * x ≤ 2 * 11 := Nat.mul_le_mul hz (by omega)
  have hu := ho.2.1
  have hv := ho.2.2
  refine zC_of (lo := [_, _, _, _, _, _]) kcX3_throwCell (Nat.le_of_ble_eq_true rfl) rfl (fun X hX hE => ?_)
  have loop : ∀ m b, b + m = z → zk0 G X mX3_throwCell 29 [.ref l, .int (nI x), .int (nI y), .ref k, .int (nI (((1 <<< z) - 1) <<< (z * x + u) >>> 3)), .int (nI b)] [] (zsetS w k (zhl z u v x y b S)) := by
    intro m
    induction m with
    | zero =>
      intro b hb
      obtain rfl : b = z := by omega
      refine zk_iload hX dX3_throwCell_29 rfl ?_
      refine zk_aload_n hX dX3_throwCell_31 rfl ?_
      refine zk_getI hX dX3_throwCell_32 flX3_9 (zLp_k hLp) (zLp_z hLp) ?_
      rw [zsetS_1, hL.1]
      refine zk_icmp_ge (tgt := 64) hX dX3_throwCell_35 (by decide) (fun c35 => ?_) (fun c35 => ?_)
      rotate_left
      · exact absurd (nI_le (Nat.le_refl _) (by omega)) c35
      refine zk_vret hX hE rfl ⟨rfl, rfl⟩ dX3_throwCell_64 ⟨rfl, ?_⟩
      exact zsetS_c (fun c _ => zhl_all hx hy)
    | succ m ih =>
      intro b hb
      refine zk_iload hX dX3_throwCell_29 rfl ?_
      refine zk_aload_n hX dX3_throwCell_31 rfl ?_
      refine zk_getI hX dX3_throwCell_32 flX3_9 (zLp_k hLp) (zLp_z hLp) ?_
      rw [zsetS_1, hL.1]
      refine zk_icmp_ge (tgt := 64) hX dX3_throwCell_35 (by decide) (fun c35 => ?_) (fun c35 => ?_)
      · exact absurd c35 (nI_ge (by omega) (by omega))
      refine zk_aload_n hX dX3_throwCell_38 rfl ?_
      refine zk_aload_n hX dX3_throwCell_39 rfl ?_
      refine zk_getI hX dX3_throwCell_40 flX3_9 (zLp_k hLp) (zLp_z hLp) ?_
      rw [zsetS_1, hL.1]
      refine zk_iload_n hX dX3_throwCell_43 rfl ?_
      refine zk_imul hX dX3_throwCell_44 ?_
      refine zk_aload_n hX dX3_throwCell_45 rfl ?_
      refine zk_getI hX dX3_throwCell_46 flX3_18 (zLp_k hLp) (zLp_z hLp) ?_
      rw [zsetS_1, hL.2.2]
      refine zk_iadd hX dX3_throwCell_49 ?_
      refine zk_iload hX dX3_throwCell_50 rfl ?_
      refine zk_iadd hX dX3_throwCell_52 ?_
      rw [show nI z * nI y + (nI v - 3) + nI b = nI (z * y + v + b) - 3 by rw [nI_mul, ← nI_add, ← nI_add]; grind]
      refine zk_iload hX dX3_throwCell_53 rfl ?_
      refine zk_V2v hX dX3_throwCell_55 kcX1_addLine mlX3_44 viX1_addLine rfl hC.1 hC.2 (s_X1_addLine hC zsetS_has _ _) (Nat.le_of_ble_eq_true rfl) rfl ?_
      rw [zsetS_ss, zsetS_c (T := zhl z u v x y (b + 1) S) (fun c hc => zhl_s hz hx hy hu hv (by omega) hc)]
      refine zk_iinc (lo' := [_, _, _, _, _, _]) hX dX3_throwCell_58 rfl (by first | exact zinc _ | exact rfl) (Nat.le_of_ble_eq_true rfl) rfl rfl ?_
      refine zk_goto (tgt := 29) hX dX3_throwCell_61 (by decide) ?_
      exact ih (b + 1) (by omega)
  refine zk_iconst (v := 1) hX dX3_throwCell_0 (by decide) ?_
  refine zk_aload_n hX dX3_throwCell_1 rfl ?_
  refine zk_getI hX dX3_throwCell_2 flX3_9 (zLp_k hLp) (zLp_z hLp) ?_
  rw [hL.1]
  refine zk_ishl hX dX3_throwCell_5 ?_
  rw [show (1 : Int32) = nI 1 from rfl, nI_shl _ (by omega)]
  refine zk_iconst (v := 1) hX dX3_throwCell_6 (by decide) ?_
  refine zk_isub hX dX3_throwCell_7 ?_
  rw [show (1 : Int32) = nI 1 from rfl, nI_sub (by rw [Nat.one_shiftLeft]; exact Nat.two_pow_pos _)]
  refine zk_aload_n hX dX3_throwCell_8 rfl ?_
  refine zk_getI hX dX3_throwCell_9 flX3_9 (zLp_k hLp) (zLp_z hLp) ?_
  rw [hL.1]
  refine zk_iload_n hX dX3_throwCell_12 rfl ?_
  refine zk_imul hX dX3_throwCell_13 ?_
  refine zk_aload_n hX dX3_throwCell_14 rfl ?_
  refine zk_getI hX dX3_throwCell_15 flX3_15 (zLp_k hLp) (zLp_z hLp) ?_
  rw [hL.2.1]
  refine zk_iadd hX dX3_throwCell_18 ?_
  refine zk_iconst (v := 3) hX dX3_throwCell_19 (by decide) ?_
  refine zk_iadd hX dX3_throwCell_20 ?_
  rw [show nI z * nI x + (nI u - 3) + 3 = nI (z * x + u) by rw [nI_mul, ← nI_add]; grind]
  refine zk_ishl hX dX3_throwCell_21 ?_
  rw [nI_shl _ (by omega)]
  refine zk_iconst (v := 3) hX dX3_throwCell_22 (by decide) ?_
  refine zk_ishr hX dX3_throwCell_23 ?_
  rw [show (3 : Int32) = nI 3 from rfl, nI_shr (zbits_s3 hz (by omega)) (by decide)]
  refine zk_istore (lo' := [_, _, _, _, _, _]) hX dX3_throwCell_24 (Nat.le_of_ble_eq_true rfl) rfl rfl ?_
  refine zk_iconst (v := 0) hX dX3_throwCell_26 (by decide) ?_
  refine zk_istore (lo' := [_, _, _, _, _, _]) hX dX3_throwCell_27 (Nat.le_of_ble_eq_true rfl) rfl rfl ?_
  have h0 := loop z 0 (by omega)
  rw [zsetS_c (T := S) (fun c _ => by unfold zhl; simp), zsetS_id hS] at h0
  exact h0
def zhf (z u v fl : Nat) (P : Nat → Bool) (q : Nat) (S : zS) : zS := fun c => S c || zany (fun i => decide (i < q) && (P i && zhit z u v (12 * fl + i) c)) 60
theorem zany_c {P R : Nat → Bool} {n : Nat} (h : ∀ i, i < n → P i = R i) : zany P n = zany R n := by
  induction n with
  | zero => rfl
  | succ n ih =>
    show (zany P n || P n) = (zany R n || R n)
    rw [ih (fun i hi => h i (by omega)), h n (by omega)]
theorem zfirst (P : Nat → Bool) : ∀ n, (∀ i, i < n → P i = false) ∨ ∃ k, k < n ∧ P k = true ∧ ∀ j, j < k → P j = false
  | 0 => Or.inl (fun i h => absurd h (by omega))
  | n + 1 => by
    rcases zfirst P n with h | ⟨k, h1, h2⟩
    · cases q : P n with
      | true => exact Or.inr ⟨n, by omega, q, h⟩
      | false =>
        refine Or.inl (fun i hi => ?_)
        rcases Nat.lt_succ_iff_lt_or_eq.mp hi with g | rfl
        · exact h i g
        · exact q
    · exact Or.inr ⟨k, by omega, h2⟩
theorem zhf_s {z u v fl q k c : Nat} {P : Nat → Bool} {S : zS} (hq : q ≤ k) (hk : k < 60) (hP : P k = true) (hn : ∀ j, j < k → (decide (q ≤ j) && P j) = false) : (zhf z u v fl P q S c || zhit z u v (12 * fl + k) c) = zhf z u v fl P (k + 1) S c := by
  unfold zhf
  rw [Bool.or_assoc]
  congr 1
  rw [Bool.eq_iff_iff, Bool.or_eq_true, zany_m, zany_m]
  simp only [Bool.and_eq_true, decide_eq_true_eq]
  constructor
  · rintro (⟨i, h1, h2, h3⟩ | h)
    · exact ⟨i, h1, by omega, h3⟩
    · exact ⟨k, hk, by omega, hP, h⟩
  · rintro ⟨i, h1, h2, h3, h4⟩
    rcases Nat.lt_succ_iff_lt_or_eq.mp h2 with h | rfl
    · rcases Nat.lt_or_ge i q with g | g
      · exact Or.inl ⟨i, h1, g, h3, h4⟩
      · have := hn i h
        simp [g, h3] at this
    · exact Or.inr h4
theorem zhf_end {z u v fl q c : Nat} {P : Nat → Bool} {S : zS} (h : ∀ i, i < 60 → (decide (q ≤ i) && P i) = false) : zhf z u v fl P q S c = zhf z u v fl P 60 S c := by
  unfold zhf
  congr 1
  refine zany_c (fun i hi => ?_)
  have h1 := h i hi
  have h2 : decide (i < 60) = true := by simp [hi]
  rw [h2, Bool.true_and]
  rcases Nat.lt_or_ge i q with g | g
  · simp [g]
  · have h3 : ¬ i < q := by omega
    have h4 : P i = false := by simpa [g] using h1
    simp [h4]
theorem zlow_of {P : Nat → Bool} {k : Nat} (hk : k < 60) (h : P k = true) (hn : ∀ j, j < k → P j = false) : zlow (zbits P 60) k := by
  constructor
  · rw [zbits_bit]
    simp [hk, h]
  · intro j hj
    rw [zbits_bit, hn j hj, Bool.and_false]
theorem s_X3_throwHalf {G : zG} {w : zW} {l k z u v fl : Nat} {S : zS} {P : Nat → Bool} (hLp : zLp l) (hC : zCe k) (hS : zHas w k S) (hL : zLm w l z u v) (ho : zlok z u v) (hf : fl = 0 ∨ fl = 5) :
    zEv G mX3_throwHalf [.ref l, .long (lN (zbits P 60)), .int (nI fl), .ref k] w (zsetS w k (zhf z u v fl P 60 S)) := by
  refine zC_of (lo := [_, _, _, _, _, _, _, _, _]) kcX3_throwHalf (Nat.le_of_ble_eq_true rfl) rfl (fun X hX hE => ?_)
  have loop : ∀ m i q (b : Value), i + m = 60 → i ≤ q → zk0 G X mX3_throwHalf 6 [.ref l, .long (lN (zbits P 60)), .null, .int (nI fl), .ref k, .long (lN (zbits (fun i => decide (q ≤ i) && P i) 60)), .null, .int (nI i), b] [] (zsetS w k (zhf z u v fl P q S)) := by
    intro m
    induction m with
    | zero =>
      intro i q b hi hq
      obtain rfl : i = 60 := by omega
      refine zk_iload hX dX3_throwHalf_6 rfl ?_
      refine zk_bipush (v := 60) hX dX3_throwHalf_8 (by decide) ?_
      refine zk_icmp_ge (tgt := 60) hX dX3_throwHalf_10 (by decide) (fun c10 => ?_) (fun c10 => ?_)
      rotate_left
      · exact absurd (by decide) c10
      refine zk_vret hX hE rfl ⟨rfl, rfl⟩ dX3_throwHalf_60 ⟨rfl, ?_⟩
      refine zsetS_c (fun c _ => ?_)
      rw [zhf_end (q := q)]
      intro i hi
      have h1 : ¬ q ≤ i := by omega
      simp [h1]
    | succ m ih =>
      intro i q b hi hq
      rcases zfirst (fun i => decide (q ≤ i) && P i) 60 with h | ⟨a, ha, h1, h2⟩
      · have h0 : lN (zbits (fun i => decide (q ≤ i) && P i) 60) = 0 := by
          rw [zbits_c (R := fun _ => false) h, zbits_0]
          rfl
        refine zk_iload hX dX3_throwHalf_6 rfl ?_
        refine zk_bipush (v := 60) hX dX3_throwHalf_8 (by decide) ?_
        refine zk_icmp_ge (tgt := 60) hX dX3_throwHalf_10 (by decide) (fun c10 => ?_) (fun c10 => ?_)
        · exact absurd c10 (nI_ge (b := 60) (by omega) (by decide))
        refine zk_lload hX dX3_throwHalf_13 rfl ?_
        refine zk_lconst (v := 0) hX dX3_throwHalf_15 rfl ?_
        refine zk_lcmp hX dX3_throwHalf_16 ?_
        refine zk_if_eq (tgt := 60) hX dX3_throwHalf_17 (by decide) (fun c17 => ?_) (fun c17 => ?_)
        rotate_left
        · exact absurd ((lg_cmp_eq _ _).mpr h0) c17
        refine zk_vret hX hE rfl ⟨rfl, rfl⟩ dX3_throwHalf_60 ⟨rfl, ?_⟩
        refine zsetS_c (fun c _ => ?_)
        rw [zhf_end h]
      · have hl := zlow_of ha h1 h2
        have hb := zbits_lt (fun i => decide (q ≤ i) && P i) 60
        have hp : 1 ≤ zbits (fun i => decide (q ≤ i) && P i) 60 := zlow_pos hl
        have h0 : ¬ lN (zbits (fun i => decide (q ≤ i) && P i) 60) = 0 := fun e => by
          have := (lN_inj (b := 0) (zp64 hb) (by decide)).mp e
          omega
        have hP : q ≤ a ∧ P a = true := by simpa using h1
        have e1 : zbits (fun i => decide (q ≤ i) && P i) 60 &&& (zbits (fun i => decide (q ≤ i) && P i) 60 - 1) = zbits (fun i => decide (a + 1 ≤ i) && P i) 60 := by
          refine zbits_of (Nat.lt_of_le_of_lt Nat.and_le_left hb) (fun i hi => ?_)
          rw [zlow_clear hl, zbits_bit]
          simp only [hi, decide_true, Bool.true_and]
          rcases Nat.lt_trichotomy i a with g | g | g
          · have g1 := h2 i g
            have g2 : ¬ a + 1 ≤ i := by omega
            rw [g1]
            simp [g2]
          · subst g
            simp
            omega
          · have g1 : q ≤ i := by omega
            have g2 : a + 1 ≤ i := by omega
            have g3 : ¬ i = a := by omega
            simp [g1, g2, g3]
        refine zk_iload hX dX3_throwHalf_6 rfl ?_
        refine zk_bipush (v := 60) hX dX3_throwHalf_8 (by decide) ?_
        refine zk_icmp_ge (tgt := 60) hX dX3_throwHalf_10 (by decide) (fun c10 => ?_) (fun c10 => ?_)
        · exact absurd c10 (nI_ge (b := 60) (by omega) (by decide))
        refine zk_lload hX dX3_throwHalf_13 rfl ?_
        refine zk_lconst (v := 0) hX dX3_throwHalf_15 rfl ?_
        refine zk_lcmp hX dX3_throwHalf_16 ?_
        refine zk_if_eq (tgt := 60) hX dX3_throwHalf_17 (by decide) (fun c17 => ?_) (fun c17 => ?_)
        · exact absurd c17 (fun e => h0 ((lg_cmp_eq _ _).mp e))
        refine zk_lload hX dX3_throwHalf_20 rfl ?_
        refine zk_S1i hX dX3_throwHalf_22 kcJ13_numberOfTrailingZeros_95d88 mlX3_34 smJ13_numberOfTrailingZeros_95d88 rfl (s_J13_ntz hl ha (zp64 hb)) (Nat.le_of_ble_eq_true rfl) rfl ?_
        refine zk_istore (lo' := [_, _, _, _, _, _, _, _, _]) hX dX3_throwHalf_25 (Nat.le_of_ble_eq_true rfl) rfl rfl ?_
        refine zk_aload_n hX dX3_throwHalf_27 rfl ?_
        refine zk_iload hX dX3_throwHalf_28 rfl ?_
        refine zk_bipush (v := 12) hX dX3_throwHalf_30 (by decide) ?_
        refine zk_irem hX dX3_throwHalf_32 (by decide) ?_
        rw [show (12 : Int32) = nI 12 from rfl, nI_rem (by omega) (by decide)]
        refine zk_iload_n hX dX3_throwHalf_33 rfl ?_
        refine zk_iload hX dX3_throwHalf_34 rfl ?_
        refine zk_bipush (v := 12) hX dX3_throwHalf_36 (by decide) ?_
        refine zk_idiv hX dX3_throwHalf_38 (by decide) ?_
        rw [show (12 : Int32) = nI 12 from rfl, nI_div (by omega) (by decide)]
        refine zk_iadd hX dX3_throwHalf_39 ?_
        rw [nI_add]
        refine zk_aload hX dX3_throwHalf_40 rfl ?_
        refine zk_V3v hX dX3_throwHalf_42 kcX3_throwCell mlX3_40 viX3_throwCell rfl (zLp_k hLp) (zLp_z hLp) (s_X3_throwCell hLp hC zsetS_has (zLm_o hL rfl) ho (by omega) (by omega)) (Nat.le_of_ble_eq_true rfl) rfl ?_
        rw [zsetS_ss, zsetS_c (T := zhf z u v fl P (a + 1) S) (fun c _ => by rw [show 12 * (fl + a / 12) + a % 12 = 12 * fl + a by omega]; exact zhf_s hP.1 ha hP.2 h2)]
        refine zk_lload hX dX3_throwHalf_45 rfl ?_
        refine zk_lload hX dX3_throwHalf_47 rfl ?_
        refine zk_lconst (v := 1) hX dX3_throwHalf_49 rfl ?_
        refine zk_lsub hX dX3_throwHalf_50 ?_
        rw [show (1 : Int64) = lN 1 from rfl, lN_sub hp]
        refine zk_land hX dX3_throwHalf_51 ?_
        rw [lN_and, e1]
        refine zk_lstore (lo' := [_, _, _, _, _, _, _, _, _]) hX dX3_throwHalf_52 (Nat.le_of_ble_eq_true rfl) rfl rfl ?_
        refine zk_iinc (lo' := [_, _, _, _, _, _, _, _, _]) hX dX3_throwHalf_54 rfl (by first | exact zinc _ | exact rfl) (Nat.le_of_ble_eq_true rfl) rfl rfl ?_
        refine zk_goto (tgt := 6) hX dX3_throwHalf_57 (by decide) ?_
        exact ih (i + 1) (a + 1) _ (by omega) (by omega)
  have e0 : zsetS w k S = w := zsetS_id hS
  have e1 : zbits P 60 = zbits (fun i => decide (0 ≤ i) && P i) 60 := zbits_c (fun i _ => by simp)
  have e2 : zsetS w k (zhf z u v fl P 0 S) = zsetS w k S := zsetS_c (fun c _ => by
    unfold zhf
    rw [zany_c (R := fun _ => false) (fun i _ => by simp)]
    cases q : zany (fun _ => false) 60 with
    | false => rw [Bool.or_false]
    | true =>
      rw [zany_m] at q
      obtain ⟨_, _, q⟩ := q
      cases q)
  have h0 : ∀ b, _ := fun b => loop 60 0 0 b (by omega) (by omega)
  rw [e2, e0, ← e1] at h0
  refine zk_lload_n hX dX3_throwHalf_0 rfl ?_
  refine zk_lstore (lo' := [_, _, _, _, _, _, _, _, _]) hX dX3_throwHalf_1 (Nat.le_of_ble_eq_true rfl) rfl rfl ?_
  refine zk_iconst (v := 0) hX dX3_throwHalf_3 (by decide) ?_
  refine zk_istore (lo' := [_, _, _, _, _, _, _, _, _]) hX dX3_throwHalf_4 (Nat.le_of_ble_eq_true rfl) rfl rfl ?_
  exact h0 _
theorem zthr_half {z u v c : Nat} {S : zS} : zhf z u v 5 (fun i => S (60 + i)) 60 (zhf z u v 0 S 60 zno) c = zthr z u v S c := by
  unfold zhf
  rw [Bool.eq_iff_iff, Bool.or_eq_true, Bool.or_eq_true, zany_m, zany_m, zthr_m]
  simp only [Bool.and_eq_true, decide_eq_true_eq, zno]
  constructor
  · rintro ((h | ⟨i, h1, h2, h3, h4⟩) | ⟨i, h1, h2, h3, h4⟩)
    · cases h
    · exact ⟨i, by omega, h3, by rwa [show 12 * 0 + i = i by omega] at h4⟩
    · exact ⟨60 + i, by omega, h3, by rwa [show 12 * 5 + i = 60 + i by omega] at h4⟩
  · rintro ⟨a, h1, h2, h3⟩
    rcases Nat.lt_or_ge a 60 with g | g
    · exact Or.inl (Or.inr ⟨a, g, g, h2, by rwa [show 12 * 0 + a = a by omega]⟩)
    · exact Or.inr ⟨a - 60, by omega, by omega, by rwa [show 60 + (a - 60) = a by omega], by rwa [show 12 * 5 + (a - 60) = a by omega]⟩
theorem s_X3_throwCells {G : zG} {w : zW} {l k z u v : Nat} {S : zS} (hLp : zLp l) (hC : zCe k) (hL : zLm w l z u v) (ho : zlok z u v) :
    zEv G mX3_throwCells [.ref l, .long (zT S), .long (zLo S), .ref k] w (zsetS w k (zthr z u v S)) := by
  refine zC_of (lo := [_, _, _, _, _, _]) kcX3_throwCells (Nat.le_of_ble_eq_true rfl) rfl (fun X hX hE => ?_)
  refine zk_aload hX dX3_throwCells_0 rfl ?_
  refine zk_V0v hX dX3_throwCells_2 kcX1_clear mlX3_25 viX1_clear rfl hC.1 hC.2 (s_X1_clear hC) (Nat.le_of_ble_eq_true rfl) rfl ?_
  refine zk_aload_n hX dX3_throwCells_5 rfl ?_
  refine zk_lload_n hX dX3_throwCells_6 rfl ?_
  refine zk_iconst (v := 0) hX dX3_throwCells_7 (by decide) ?_
  refine zk_aload hX dX3_throwCells_8 rfl ?_
  refine zk_V3v hX dX3_throwCells_10 kcX3_throwHalf mlX3_30 viX3_throwHalf rfl (zLp_k hLp) (zLp_z hLp) (s_X3_throwHalf (P := S) (fl := 0) hLp hC zsetS_has (zLm_o hL rfl) ho (Or.inl rfl)) (Nat.le_of_ble_eq_true rfl) rfl ?_
  rw [zsetS_ss]
  refine zk_aload_n hX dX3_throwCells_13 rfl ?_
  refine zk_lload_n hX dX3_throwCells_14 rfl ?_
  refine zk_iconst (v := 5) hX dX3_throwCells_15 (by decide) ?_
  refine zk_aload hX dX3_throwCells_16 rfl ?_
  refine zk_V3v hX dX3_throwCells_18 kcX3_throwHalf mlX3_30 viX3_throwHalf rfl (zLp_k hLp) (zLp_z hLp) (s_X3_throwHalf (P := fun i => S (60 + i)) (fl := 5) hLp hC zsetS_has (zLm_o hL rfl) ho (Or.inr rfl)) (Nat.le_of_ble_eq_true rfl) rfl ?_
  refine zk_vret hX hE rfl ⟨rfl, rfl⟩ dX3_throwCells_21 ⟨rfl, ?_⟩
  rw [zsetS_ss]
  exact zsetS_c (fun c _ => zthr_half)

