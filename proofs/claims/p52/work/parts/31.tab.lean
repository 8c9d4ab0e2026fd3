def zso (D : zD) (o : Int32) (j : Nat) : Nat := if zac D o (dH D j) = true then zsp D j else 1
theorem zso_m {D : zD} {j : Nat} : zso D (-1) j = zsp D j := if_pos zac_m1
theorem zso_pos {D : zD} {o : Int32} {j : Nat} : 0 < zso D o j := by
  unfold zso zsp
  split <;> omega
theorem zso_le {D : zD} {o : Int32} {j : Nat} : zso D o j ≤ zsp D j := by
  unfold zso zsp
  split <;> omega
theorem zpr_le2 {s s' : Nat → Nat} (h : ∀ j, s j ≤ s' j) : ∀ {m : Nat}, zpr s m ≤ zpr s' m
  | 0 => Nat.le_refl _
  | m + 1 => Nat.mul_le_mul (zpr_le2 h) (h m)
/-- how many own turns a finger has -/
def zown (D : zD) (f : Nat) : Nat := zpr (zsD D f) (dL D f)
theorem zown_le {D : zD} (hD : zDok D) {f : Nat} (hf : f < dF D) : zown D f ≤ 125 := by
  have h3 := (hD.2.2.1 f hf).2.2.1
  have key : ∀ m, m ≤ dL D f → zpr (zsD D f) m ≤ 5 ^ m := by
    intro m
    induction m with
    | zero => intro _; exact Nat.le_refl _
    | succ m ih =>
      intro h
      have h1 := ih (by omega)
      have h2 := (zsp_b hD (zoff_in hD hf (show m < dL D f by omega))).2
      show zpr (zsD D f) m * zsD D f m ≤ 5 ^ (m + 1)
      rw [Nat.pow_succ]
      exact Nat.mul_le_mul h1 h2
  exact Nat.le_trans (key _ (Nat.le_refl _)) (Nat.le_trans (Nat.pow_le_pow_right (by decide) h3) (by decide))
theorem zown_pos {D : zD} {f : Nat} : 0 < zown D f := zpr_pos (fun j _ => by show 0 < zsp D _; unfold zsp; omega)
/-- turns of all joints out of one finger's own ones -/
def zfvt (D : zD) (f n : Nat) : Nat → Int32 := fun j => zod D f n (j - zoff D f)
def oL (D : zD) (f n : Nat) : List zPt := zLq D (zfvt D f n) f (dL D f + 1)
def oA (D : zD) (f n : Nat) : Nat := zsm (fun i => zab (zod D f n i)) (dL D f)
def ldv (wr a : Nat) : Int32 := if 0 < wr then -1 else nI a
/-- rows of all turns of the first F fingers (of a hand) -/
def zN_ (D : zD) (o : Int32) (F : Nat) : Nat := zpr (zso D o) (zoff D F)
def zrt (D : zD) (o : Int32) (F i : Nat) : Nat → Int32 := ztv D (zdg (zso D o) (zoff D F) i)
def rL (D : zD) (o : Int32) (F i : Nat) : List zPt := zLf D (zrt D o F i) o F
def rA (D : zD) (o : Int32) (F i : Nat) : Nat := zldo D (zrt D o F i) o (zoff D F)
theorem zso_fin {D : zD} (hD : zDok D) {o : Int32} {F k : Nat} (hF : F < dF D) (hk : k < dL D F) : zso D o (zoff D F + k) = if zac D o F = true then zsD D F k else 1 := by
  unfold zso
  rw [hD.2.2.2.2.2 F k hF hk]
theorem zN_s {D : zD} (hD : zDok D) {o : Int32} {F : Nat} (hF : F < dF D) : zN_ D o (F + 1) = zN_ D o F * (if zac D o F = true then zown D F else 1) := by
  unfold zN_
  rw [show zoff D (F + 1) = zoff D F + dL D F from rfl, zpr_add]
  congr 1
  by_cases q : zac D o F = true
  · rw [if_pos q]
    exact zpr_c (fun k hk => by rw [zso_fin hD hF hk, if_pos q])
  · rw [if_neg q]
    rw [zpr_c (sp' := fun _ => 1) (fun k hk => by rw [zso_fin hD hF hk, if_neg q])]
    generalize dL D F = l
    induction l with
    | zero => rfl
    | succ l ih =>
      show zpr (fun _ => 1) l * 1 = 1
      rw [ih]
theorem zN_mono {D : zD} {o : Int32} {F F' : Nat} (h : F ≤ F') : zN_ D o F ≤ zN_ D o F' := zpr_mono (fun _ _ => zso_pos) (zoff_mono h)
theorem zN_le {D : zD} (hD : zDok D) {o : Int32} {F : Nat} (hF : F ≤ dF D) (h : zpr (zsp D) (dJ D) ≤ 4096) : zN_ D o F ≤ 4096 := by
  have h1 := zN_mono (D := D) (o := o) hF
  have h2 : zN_ D o (dF D) ≤ zpr (zsp D) (zoff D (dF D)) := zpr_le2 (fun j => zso_le)
  rw [hD.2.2.2.1] at h2
  omega
/-- the turns of a joined row -/
theorem zrt_a {D : zD} (hD : zDok D) {o : Int32} {F i c : Nat} (hF : F < dF D) (q : zac D o F = true) (hc : c < zown D F) {j : Nat} (hj : j < zoff D F) : zrt D o (F + 1) (i * zown D F + c) j = zrt D o F i j := by
  have e : zpr (fun k => zso D o (zoff D F + k)) (dL D F) = zown D F := zpr_c (fun k hk => by rw [zso_fin hD hF hk, if_pos q])
  unfold zrt ztv
  rw [show zoff D (F + 1) = zoff D F + dL D F from rfl]
  have h := zdg_join (zso D o) (zoff D F) i (dL D F) c j (by rw [e]; exact hc) (by omega)
  rw [e, if_pos hj] at h
  rw [h]
theorem zrt_b {D : zD} (hD : zDok D) {o : Int32} {F i c : Nat} (hF : F < dF D) (q : zac D o F = true) (hc : c < zown D F) {k : Nat} (hk : k < dL D F) : zrt D o (F + 1) (i * zown D F + c) (zoff D F + k) = zod D F c k := by
  have e : zpr (fun k => zso D o (zoff D F + k)) (dL D F) = zown D F := zpr_c (fun k hk => by rw [zso_fin hD hF hk, if_pos q])
  unfold zrt ztv zod
  rw [show zoff D (F + 1) = zoff D F + dL D F from rfl]
  have h := zdg_join (zso D o) (zoff D F) i (dL D F) c (zoff D F + k) (by rw [e]; exact hc) (by omega)
  rw [e, if_neg (by omega), show zoff D F + k - zoff D F = k by omega] at h
  rw [h, zdg_c (sp' := zsD D F) c k (fun k hk => by rw [zso_fin hD hF hk, if_pos q])]
theorem zrt_n {D : zD} (hD : zDok D) {o : Int32} {F i : Nat} (hF : F < dF D) (q : ¬ zac D o F = true) {j : Nat} (hj : j < zoff D F) : zrt D o (F + 1) i j = zrt D o F i j := by
  have e : zpr (fun k => zso D o (zoff D F + k)) (dL D F) = 1 := by
    have h := zN_s hD (o := o) hF
    rw [if_neg q, Nat.mul_one] at h
    unfold zN_ at h
    rw [show zoff D (F + 1) = zoff D F + dL D F from rfl, zpr_add] at h
    have hp : 0 < zpr (zso D o) (zoff D F) := zpr_pos (fun _ _ => zso_pos)
    exact Nat.eq_of_mul_eq_mul_left hp (by rw [h, Nat.mul_one])
  unfold zrt ztv
  rw [show zoff D (F + 1) = zoff D F + dL D F from rfl]
  have h := zdg_join (zso D o) (zoff D F) i (dL D F) 0 j (by rw [e]; decide) (by omega)
  rw [e, if_pos hj, Nat.mul_one, Nat.add_zero] at h
  rw [h]
theorem zLf_lt {D : zD} (hD : zDok D) {t t' : Nat → Int32} {o : Int32} {n : Nat} (hn : n ≤ dF D) (h : ∀ j, j < zoff D n → t j = t' j) : zLf D t o n = zLf D t' o n :=
  zLf_c hD hn (fun f hf _ k hk => h _ (by have := zoff_mono (D := D) (show f + 1 ≤ n by omega); have e : zoff D (f + 1) = zoff D f + dL D f := rfl; omega))
theorem rL_a {D : zD} (hD : zDok D) {o : Int32} {F i c : Nat} (hF : F < dF D) (q : zac D o F = true) (hc : c < zown D F) : rL D o (F + 1) (i * zown D F + c) = rL D o F i ++ oL D F c := by
  unfold rL oL
  show zLf D _ o F ++ (if zac D o F = true then _ else _) = _
  rw [if_pos q, zLf_lt (t' := zrt D o F i) hD (by omega) (fun j hj => zrt_a hD hF q hc hj), zLq_c (t' := zfvt D F c) (fun k hk => by
    rw [(hD.2.2.1 F hF).2.2.2, zrt_b hD hF q hc (by omega)]
    unfold zfvt
    rw [show zoff D F + k - zoff D F = k by omega])]
theorem rL_n {D : zD} (hD : zDok D) {o : Int32} {F i : Nat} (hF : F < dF D) (q : ¬ zac D o F = true) : rL D o (F + 1) i = rL D o F i := by
  unfold rL
  show zLf D _ o F ++ (if zac D o F = true then _ else _) = _
  rw [if_neg q, List.append_nil, zLf_lt (t' := zrt D o F i) hD (by omega) (fun j hj => zrt_n hD hF q hj)]
theorem zsm_add (g : Nat → Nat) (m : Nat) : ∀ n, zsm g (m + n) = zsm g m + zsm (fun i => g (m + i)) n
  | 0 => rfl
  | n + 1 => by
    show zsm g (m + n) + g (m + n) = zsm g m + (zsm (fun i => g (m + i)) n + g (m + n))
    rw [zsm_add g m n, Nat.add_assoc]
theorem rA_a {D : zD} (hD : zDok D) {o : Int32} {F i c : Nat} (hF : F < dF D) (q : zac D o F = true) (hc : c < zown D F) : rA D o (F + 1) (i * zown D F + c) = rA D o F i + oA D F c := by
  unfold rA oA zldo
  rw [show zoff D (F + 1) = zoff D F + dL D F from rfl, zsm_add]
  congr 1
  · exact zsm_c (fun j hj => by rw [zrt_a hD hF q hc hj])
  · exact zsm_c (fun k hk => by rw [zrt_b hD hF q hc hk, hD.2.2.2.2.2 F k hF hk, if_pos q])
theorem rA_n {D : zD} (hD : zDok D) {o : Int32} {F i : Nat} (hF : F < dF D) (q : ¬ zac D o F = true) : rA D o (F + 1) i = rA D o F i := by
  unfold rA zldo
  rw [show zoff D (F + 1) = zoff D F + dL D F from rfl, zsm_add]
  rw [show zsm (fun k => if zac D o (dH D (zoff D F + k)) = true then zab (zrt D o (F + 1) i (zoff D F + k)) else 0) (dL D F) = 0 by
    rw [zsm_c (g' := fun _ => 0) (fun k hk => by rw [hD.2.2.2.2.2 F k hF hk, if_neg q])]
    generalize dL D F = l
    induction l with
    | zero => rfl
    | succ l ih => show zsm (fun _ => 0) l + 0 = 0; rw [ih], Nat.add_zero]
  exact zsm_c (fun j hj => by rw [zrt_n hD hF q hj])
theorem oA_le {D : zD} (hD : zDok D) {f n : Nat} (hf : f < dF D) : oA D f n ≤ 6 := by
  have h3 := (hD.2.2.1 f hf).2.2.1
  have := zsm_le (g := fun i => zab (zod D f n i)) (b := 2) (n := dL D f) (fun i hi => (zod_ab hD hf hi).1)
  unfold oA
  omega
theorem zrt_2 {D : zD} (hD : zDok D) {o : Int32} {F i j : Nat} (hF : F ≤ dF D) (hj : j < zoff D F) : -2 ≤ zrt D o F i j ∧ zrt D o F i j ≤ 2 := by
  have h1 := zoff_le hD hF
  have h2 := hD.2.2.2.2.1 j (by omega)
  have h3 := zdg_lt (sp := zso D o) (m := zoff D F) (j := j) i zso_pos hj
  have h4 := zso_le (D := D) (o := o) (j := j)
  unfold zsp at h4
  unfold zrt ztv
  exact (by decide +kernel : ∀ d, d < 5 → ∀ b, b < 3 → d ≤ b + 2 → (-2 ≤ nI d - nI b ∧ nI d - nI b ≤ 2)) _ (by omega) _ (by omega) (by omega)
theorem rA_le {D : zD} (hD : zDok D) {o : Int32} {F i : Nat} (hF : F ≤ dF D) : rA D o F i ≤ 12 := by
  have h1 := zoff_le hD hF
  have h6 := hD.1.2.2
  have := zsm_le (g := fun j => if zac D o (dH D j) = true then zab (zrt D o F i j) else 0) (b := 2) (n := zoff D F) (fun j hj => by
    have := (zab_2 (zrt_2 (o := o) (i := i) hD hF hj)).1
    split <;> omega)
  unfold rA zldo
  omega
def zLc (k L : Nat) : Prop := k < zN ∧ zsh k = (2, 3, L)
theorem zidx {i n t c : Nat} (hi : i < n) (hc : c < t) : i * t + c < n * t := by
  have h : (i + 1) * t ≤ n * t := Nat.mul_le_mul_right _ hi
  rw [Nat.add_mul, Nat.one_mul] at h
  omega
theorem s_X6_join {G : zG} {w : zW} {A O LO n fr t : Nat} (hAl : zLc A 4096) (hOl : zLc O LO) (hAO : A ≠ O) (hLO : LO ≤ 750) (ht : 0 < t) (hn : n * t ≤ 4096) (hn1 : n ≤ 4096) (ht1 : t ≤ 125) (hfr : fr + t ≤ LO) :
    zCv G mX6_join [.ref A, .int (nI n), .ref O, .int (nI fr), .int (nI t)] w (fun w' => zFr [] [A] [] w w' ∧ ∀ i c, i < n → c < t → w'.2.1 A (i * t + c) = w.2.1 A i ||| w.2.1 O (fr + c)) := by
  refine zC_of (lo := [_, _, _, _, _, _, _, _, _]) kcX6_join (Nat.le_of_ble_eq_true rfl) rfl (fun X hX hE => ?_)
  have loop : ∀ i w1 (a b d : Value), i ≤ n → zFr [] [A] [] w w1 → (∀ k, k < i → w1.2.1 A k = w.2.1 A k) → (∀ k c, i ≤ k → k < n → c < t → w1.2.1 A (k * t + c) = w.2.1 A k ||| w.2.1 O (fr + c)) → zk0 G X mX6_join 28 [.ref A, .int (nI n), .ref O, .int (nI fr), .int (nI t), .int (nI i - 1), a, b, d] [] w1 := by
    intro i
    induction i with
    | zero =>
      intro w1 a b d _ hF h1 h2
      refine zk_iload hX dX6_join_28 rfl ?_
      refine zk_if_lt (tgt := 81) hX dX6_join_30 (by decide) (fun c30 => ?_) (fun c30 => ?_)
      rotate_left
      · exact absurd (by decide) c30
      refine zk_vret hX hE rfl ⟨rfl, rfl⟩ dX6_join_81 ⟨rfl, ?_⟩
      exact ⟨hF, fun i c hi hc => h2 i c (by omega) hi hc⟩
    | succ i ih =>
      intro w1 a b d hi hF h1 h2
      rw [show nI (i + 1) - 1 = nI i from nI_pred i]
      have hiN : i < 4096 := by omega
      have eO : ∀ w2, zFr [] [A] [] w w2 → w2.2.1 O = w.2.1 O := fun w2 h => h.2.2.1 O (by simp; omega)
      have inner : ∀ c w2, c ≤ t → zFr [] [A] [] w w2 → (∀ k, k < i → w2.2.1 A k = w.2.1 A k) → (∀ k c', ((i + 1 ≤ k ∧ k < n) ∨ (k = i ∧ c ≤ c')) → c' < t → w2.2.1 A (k * t + c') = w.2.1 A k ||| w.2.1 O (fr + c')) → zk0 G X mX6_join 45 [.ref A, .int (nI n), .ref O, .int (nI fr), .int (nI t), .int (nI i), .long (w.2.1 A i), .null, .int (nI c - 1)] [] w2 := by
        intro c
        induction c with
        | zero =>
          intro w2 _ hF2 g1 g2
          refine zk_iload hX dX6_join_45 rfl ?_
          refine zk_if_lt (tgt := 75) hX dX6_join_47 (by decide) (fun c47 => ?_) (fun c47 => ?_)
          rotate_left
          · exact absurd (by decide) c47
          refine zk_iinc (lo' := [_, _, _, _, _, _, _, _, _]) hX dX6_join_75 rfl (by exact zdec1 _) (Nat.le_of_ble_eq_true rfl) rfl rfl ?_
          refine zk_goto (tgt := 28) hX dX6_join_78 (by decide) ?_
          exact ih w2 _ _ _ (by omega) hF2 g1 (fun k c' hk hkn hc' => g2 k c' (by omega) hc')
        | succ c ih2 =>
          intro w2 hc hF2 g1 g2
          rw [show nI (c + 1) - 1 = nI c from nI_pred c]
          have hx := zidx (i := i) (n := n) (t := t) (c := c) (by omega) (by omega)
          have hx2 : i ≤ i * t := Nat.le_mul_of_pos_right _ ht
          refine zk_iload hX dX6_join_45 rfl ?_
          refine zk_if_lt (tgt := 75) hX dX6_join_47 (by decide) (fun c47 => ?_) (fun c47 => ?_)
          · exact absurd c47 (nI_pos (by omega))
          refine zk_aload_n hX dX6_join_50 rfl ?_
          refine zk_iload hX dX6_join_51 rfl ?_
          refine zk_iload hX dX6_join_53 rfl ?_
          refine zk_imul hX dX6_join_55 ?_
          refine zk_iload hX dX6_join_56 rfl ?_
          refine zk_iadd hX dX6_join_58 ?_
          refine zk_lload hX dX6_join_59 rfl ?_
          refine zk_aload_n hX dX6_join_61 rfl ?_
          refine zk_iload_n hX dX6_join_62 rfl ?_
          refine zk_iload hX dX6_join_63 rfl ?_
          refine zk_iadd hX dX6_join_65 ?_
          refine zk_laldE hX dX6_join_66 (nI_addE rfl rfl) hOl.1 hOl.2 (by first | assumption | omega) (Nat.ble_eq.mpr (by omega)) ?_
          rw [eO w2 hF2]
          refine zk_lor hX dX6_join_67 ?_
          refine zk_lastE hX dX6_join_68 (nI_addE (nI_mulE rfl rfl) rfl) hAl.1 hAl.2 (by first | assumption | omega) (Nat.ble_eq.mpr (by omega)) ?_
          refine zk_iinc (lo' := [_, _, _, _, _, _, _, _, _]) hX dX6_join_69 rfl (by exact zdec1 _) (Nat.le_of_ble_eq_true rfl) rfl rfl ?_
          refine zk_goto (tgt := 45) hX dX6_join_72 (by decide) ?_
          refine ih2 _ (by omega) (zFr_t hF2 (zFr_l (by simp))) (fun k hk => ?_) (fun k c' hk hc' => ?_)
          · rw [zsl_2, if_neg (by omega)]
            exact g1 k hk
          · rw [zsl_2]
            by_cases q : k = i ∧ c' = c
            · rw [if_pos ⟨rfl, by rw [q.1, q.2]⟩, q.1, q.2]
            · have hne : ¬ (k * t + c' = i * t + c) := by
                rcases hk with hk | hk
                · have := zidx (i := i) (n := k) (t := t) (c := c) (by omega) (by omega)
                  omega
                · rw [hk.1]
                  omega
              rw [if_neg (fun z => hne z.2)]
              exact g2 k c' (by omega) hc'
      refine zk_iload hX dX6_join_28 rfl ?_
      refine zk_if_lt (tgt := 81) hX dX6_join_30 (by decide) (fun c30 => ?_) (fun c30 => ?_)
      · exact absurd c30 (nI_pos (by omega))
      refine zk_aload_n hX dX6_join_33 rfl ?_
      refine zk_iload hX dX6_join_34 rfl ?_
      refine zk_laldE hX dX6_join_36 rfl hAl.1 hAl.2 (by first | assumption | omega) rfl ?_
      rw [h1 i (by omega)]
      refine zk_lstore (lo' := [_, _, _, _, _, _, _, _, _]) hX dX6_join_37 (Nat.le_of_ble_eq_true rfl) rfl rfl ?_
      refine zk_iload hX dX6_join_39 rfl ?_
      refine zk_iconst (v := 1) hX dX6_join_41 (by decide) ?_
      refine zk_isub hX dX6_join_42 ?_
      refine zk_istore (lo' := [_, _, _, _, _, _, _, _, _]) hX dX6_join_43 (Nat.le_of_ble_eq_true rfl) rfl rfl ?_
      exact inner t w1 (Nat.le_refl _) hF (fun k hk => h1 k (by omega)) (fun k c' hk hc' => h2 k c' (by omega) (by omega) hc')
  refine zk_iload_n hX dX6_join_0 rfl ?_
  refine zk_iload hX dX6_join_1 rfl ?_
  refine zk_imul hX dX6_join_3 ?_
  rw [nI_mul]
  refine zk_aload_n hX dX6_join_4 rfl ?_
  refine zk_alen hX dX6_join_5 hAl.1 (Or.inr (Or.inl hAl.2)) rfl ?_
  refine zk_icmp_gt (tgt := 22) hX dX6_join_6 (by decide) (fun c6 => ?_) (fun c6 => ?_)
  · exact absurd c6 (nI_nlt (by omega) (by omega))
  refine zk_iload_n hX dX6_join_9 rfl ?_
  refine zk_if_lt (tgt := 22) hX dX6_join_10 (by decide) (fun c10 => ?_) (fun c10 => ?_)
  · exact absurd c10 (nI_pos (by omega))
  refine zk_iload_n hX dX6_join_13 rfl ?_
  refine zk_iload hX dX6_join_14 rfl ?_
  refine zk_iadd hX dX6_join_16 ?_
  rw [nI_add]
  refine zk_aload_n hX dX6_join_17 rfl ?_
  refine zk_alen hX dX6_join_18 hOl.1 (Or.inr (Or.inl hOl.2)) rfl ?_
  refine zk_icmp_le (tgt := 23) hX dX6_join_19 (by decide) (fun c19 => ?_) (fun c19 => ?_)
  rotate_left
  · exact absurd (nI_le (by omega) (by omega)) c19
  refine zk_iload_n hX dX6_join_23 rfl ?_
  refine zk_iconst (v := 1) hX dX6_join_24 (by decide) ?_
  refine zk_isub hX dX6_join_25 ?_
  refine zk_istore (lo' := [_, _, _, _, _, _, _, _, _]) hX dX6_join_26 (Nat.le_of_ble_eq_true rfl) rfl rfl ?_
  exact loop n w _ _ _ (Nat.le_refl _) zFr_r (fun _ _ => rfl) (fun k c h1 h2 => absurd h1 (by omega))

