/-! the law's own worlds: two objects, told apart by a Bool, and the law's arrays -/
def zro (b : Bool) : Nat := match b with
  | false => 0
  | true => 166
def zGb (G : zG) (b : Bool) : zG := (G.1, G.2.1, G.2.2.1, zB G + zro b, fun u => if u = 9 then 166 else G.2.2.2.2 u)
abbrev zA3 : Type := Nat → Nat → Int32
def zcm (Wd : Bool → zW) (a : zA3) : zW :=
  (fun k j => if k < 166 then (Wd false).1 k j else if k < 332 then (Wd true).1 (k - 166) j else a k j,
   fun k j => if k < 166 then (Wd false).2.1 k j else if k < 332 then (Wd true).2.1 (k - 166) j else 0,
   fun k j => if k < 166 then (Wd false).2.2 k j else if k < 332 then ((Wd true).2.2 (k - 166) j).map (166 + ·) else none)
def zub (Wd : Bool → zW) (b : Bool) (w : zW) : Bool → zW := fun c => if c = b then w else Wd c
def zu3 (a : zA3) (k j : Nat) (x : Int32) : zA3 := fun c i => if c = k ∧ i = j then x else a c i
theorem zub_s {Wd : Bool → zW} {b : Bool} {w : zW} : zub Wd b w b = w := if_pos rfl
theorem zub_o {Wd : Bool → zW} {b c : Bool} {w : zW} (h : c ≠ b) : zub Wd b w c = Wd c := if_neg h
theorem zsh_b {b : Bool} {k : Nat} (h : k < 166) : zsh (zro b + k) = zsh k := by
  cases b with
  | false => rw [show zro false + k = k from Nat.zero_add k]
  | true => exact (by decide +kernel : ∀ k, k < 166 → zsh (166 + k) = zsh k) k h
theorem zB_b {G : zG} {b : Bool} : zB (zGb G b) = zB G + zro b := rfl
theorem zWd_b {G : zG} {b : Bool} : zWd (zGb G b) = 166 := show (if (9 : UInt32) = 9 then 166 else G.2.2.2.2 9) = 166 from if_pos rfl
theorem zx_b {G : zG} {b : Bool} {u : UInt32} (h : u ≠ 9) : (zGb G b).2.2.2.2 u = G.2.2.2.2 u := if_neg h
theorem zA_b {G : zG} {b : Bool} (h : zro b + 166 ≤ zWd G) : ∀ q, zA (zGb G b) q → zA G q := by
  intro q hq
  obtain ⟨h1, h2⟩ := hq
  rw [zB_b] at h1 h2
  rw [zWd_b] at h2
  exact ⟨by omega, by omega⟩
theorem zcm_1 {Wd : Bool → zW} {a : zA3} {b : Bool} {k : Nat} (hk : k < 166) : (zcm Wd a).1 (zro b + k) = (Wd b).1 k := by
  funext j
  cases b with
  | false =>
    rw [show zro false + k = k from Nat.zero_add k]
    exact if_pos hk
  | true =>
    rw [show zro true + k = 166 + k from rfl]
    show (if 166 + k < 166 then _ else if 166 + k < 332 then _ else _) = _
    rw [if_neg (by omega), if_pos (by omega), Nat.add_sub_cancel_left]
theorem zcm_2 {Wd : Bool → zW} {a : zA3} {b : Bool} {k : Nat} (hk : k < 166) : (zcm Wd a).2.1 (zro b + k) = (Wd b).2.1 k := by
  funext j
  cases b with
  | false =>
    rw [show zro false + k = k from Nat.zero_add k]
    exact if_pos hk
  | true =>
    rw [show zro true + k = 166 + k from rfl]
    show (if 166 + k < 166 then _ else if 166 + k < 332 then _ else _) = _
    rw [if_neg (by omega), if_pos (by omega), Nat.add_sub_cancel_left]
theorem zcm_3 {Wd : Bool → zW} {a : zA3} {b : Bool} {k j : Nat} (hk : k < 166) : (zcm Wd a).2.2 (zro b + k) j = ((Wd b).2.2 k j).map (zro b + ·) := by
  cases b with
  | false =>
    rw [show zro false + k = k from Nat.zero_add k]
    show (if k < 166 then _ else _) = _
    rw [if_pos hk]
    cases (Wd false).2.2 k j with
    | none => rfl
    | some x => exact congrArg some (Nat.zero_add x).symm
  | true =>
    rw [show zro true + k = 166 + k from rfl]
    show (if 166 + k < 166 then _ else if 166 + k < 332 then _ else _) = _
    rw [if_neg (by omega), if_pos (by omega), Nat.add_sub_cancel_left]
    rfl
theorem zcm_r {G : zG} {Wd : Bool → zW} {a : zA3} {b : Bool} {k j : Nat} (hk : k < 166) : ((zcm Wd a).2.2 (zro b + k) j).map (zB G + ·) = ((Wd b).2.2 k j).map (zB (zGb G b) + ·) := by
  rw [zcm_3 hk]
  cases (Wd b).2.2 k j with
  | none => rfl
  | some x => exact congrArg some (Nat.add_assoc _ _ _).symm
theorem zcm_cell {G : zG} {Wd : Bool → zW} {a : zA3} {b : Bool} {k : Nat} (hk : k < 166) : zcell G (zcm Wd a) (zro b + k) = zcell (zGb G b) (Wd b) k := by
  have e1 : zfv G (zcm Wd a) (zro b + k) = zfv (zGb G b) (Wd b) k := by
    funext j kd
    match kd with
    | 0 => simp only [zfv, zcm_1 hk]
    | 1 => simp only [zfv, zcm_2 hk]
    | m + 2 => simp only [zfv, zcm_r hk]
  unfold zcell zfs
  rw [zsh_b hk, e1, zcm_1 hk, zcm_2 hk]
  simp only [zcm_r hk]
  rfl
/-- the law's world as the callee sees it -/
theorem zcm_rep {G : zG} {n : Nat} {Wd : Bool → zW} {a : zA3} {b : Bool} {H : Heap} (hn : 332 ≤ n) (hR : zRep G n (zcm Wd a) H) : zRep (zGb G b) 166 (Wd b) H := by
  refine ⟨fun h => absurd (Or.inl rfl) h, by rw [zWd_b]; exact Nat.le_refl _, fun k q hq => ?_⟩
  have hk : k < 166 := by
    have := (List.getElem?_eq_some_iff.mp hq).1
    rwa [zws_len] at this
  rw [zws_at hk] at hq
  cases hq
  have hz : zro b + k < n := by
    have : zro b ≤ 166 := by cases b <;> decide
    omega
  have h := hR.2.2 (zro b + k) _ (zws_at hz)
  rw [zcm_cell hk] at h
  rw [zB_b, Nat.add_assoc]
  exact h
theorem zcm_o {Wd : Bool → zW} {a : zA3} {b : Bool} {w : zW} {k : Nat} (h : ¬ ∃ j, j < 166 ∧ k = zro b + j) : (zcm (zub Wd b w) a).1 k = (zcm Wd a).1 k ∧ (zcm (zub Wd b w) a).2.1 k = (zcm Wd a).2.1 k ∧ (zcm (zub Wd b w) a).2.2 k = (zcm Wd a).2.2 k := by
  cases b with
  | false =>
    have h1 : ¬ k < 166 := fun q => h ⟨k, q, (Nat.zero_add k).symm⟩
    refine ⟨?_, ?_, ?_⟩ <;> funext j <;> simp only [zcm, if_neg h1] <;> rfl
  | true =>
    by_cases h1 : k < 166
    · refine ⟨?_, ?_, ?_⟩ <;> funext j <;> simp only [zcm, if_pos h1] <;> rfl
    · have h2 : ¬ k < 332 := fun q => h ⟨k - 166, by omega, by show k = 166 + (k - 166); omega⟩
      refine ⟨?_, ?_, ?_⟩ <;> funext j <;> simp only [zcm, if_neg h1, if_neg h2]
theorem zcm_back {G : zG} {n : Nat} {Wd : Bool → zW} {a : zA3} {b : Bool} {w : zW} {H H1 : Heap} (hR : zRep G n (zcm Wd a) H) (hp : ¬ zUn n → H1.size = zB G + n) (hR1 : zRep (zGb G b) 166 w H1) (hk : ∀ q : Nat, q < H.size → ¬ zA (zGb G b) q → H1[q]? = H[q]?) : zRep G n (zcm (zub Wd b w) a) H1 := by
  refine ⟨hp, hR.2.1, fun k q hq => ?_⟩
  have hkn : k < n := by
    have := (List.getElem?_eq_some_iff.mp hq).1
    rwa [zws_len] at this
  rw [zws_at hkn] at hq
  cases hq
  by_cases hb : ∃ j, j < 166 ∧ k = zro b + j
  · obtain ⟨j, hj, rfl⟩ := hb
    have h := hR1.2.2 j _ (zws_at hj)
    rw [zcm_cell hj, zub_s]
    rw [zB_b, Nat.add_assoc] at h
    exact h
  · obtain ⟨e1, e2, e3⟩ := zcm_o (Wd := Wd) (a := a) (w := w) hb
    rw [zcell_eq e1 e2 e3]
    have h := hR.2.2 k _ (zws_at hkn)
    refine h.kept (hk _ h.lt ?_)
    intro z
    obtain ⟨z1, z2⟩ := z
    rw [zB_b] at z1 z2
    rw [zWd_b] at z2
    exact hb ⟨k - zro b, by omega, by omega⟩
theorem zZ_sub {C n d : String} {v : Value} {A A' : Nat → Prop} {U : State} {H : Heap} (hA : ∀ q, A' q → A q) (h : va_Z C n d v A U H) : va_Z C n d v A' U H := by
  obtain ⟨cf, kf, fi, f, a, cell, h1, h2, h3, h4, h5, h6, h7, h8⟩ := h
  exact ⟨cf, kf, fi, f, a, cell, h1, h2, h3, h4, h5, h6, h7, fun q => h8 (hA _ q)⟩
theorem zT_sub {ty : FieldType} {t N : Nat} {f : Nat → Value} {A A' : Nat → Prop} {U : State} {H : Heap} (hA : ∀ q, A' q → A q) (h : va_T ty t N f A U H) : va_T ty t N f A' U H := by
  obtain ⟨cell, h1, h2, h3, h4, h5, h6, h7⟩ := h
  exact ⟨cell, h1, h2, h3, h4, h5, h6, fun q => h7 (hA _ q)⟩
theorem zK_b {G : zG} {b : Bool} {U : State} (h : zK G U) (hs : zB G + zro b ≤ U.heap.size) (hw : zro b + 166 ≤ zWd G) : zK (zGb G b) U := by
  obtain ⟨h1, ⟨⟨a1, b1⟩, ⟨a2, b2⟩, h3, h4⟩, h5, h6, L9, xs9, s1, s2, s3, s4⟩ := h
  have hA := zA_b (G := G) (b := b) hw
  refine ⟨h1, ⟨⟨?_, ?_⟩, ⟨?_, ?_⟩, h3, h4⟩, hs, by rw [zWd_b]; exact Nat.le_refl _, L9, xs9, s1, by rw [zx_b (by decide)]; exact s2, by rw [zx_b (by decide)]; exact s3, by rw [zx_b (by decide)]; exact fun z => s4 (hA _ z)⟩
  · rw [zx_b (by decide)]; exact zZ_sub hA a1
  · rw [zx_b (by decide)]; exact zT_sub hA b1
  · rw [zx_b (by decide)]; exact zZ_sub hA a2
  · rw [zx_b (by decide)]; exact zT_sub hA b2
theorem zS_sub {A A' : Nat → Prop} {H0 H : Heap} {locs : List Loc} (hA : ∀ q, A' q → A q) (h : va_S A' H0 H locs) : va_S A H0 H locs := ⟨h.1, fun q h1 h2 => h.2.1 q h1 (fun z => h2 (hA q z)), fun l hl => hA _ (h.2.2 l hl)⟩
def zisI (v : Value) : Bool := match v with
  | .int _ => true
  | _ => false
theorem zisI_m {G G' : zG} : ∀ {As : List Value}, As.all zisI = true → As.map (zmv G) = As.map (zmv G')
  | [], _ => rfl
  | v :: r, h => by
    simp only [List.all_cons, Bool.and_eq_true] at h
    rw [List.map_cons, List.map_cons, zisI_m (G' := G') h.2]
    congr 1
    cases v <;> first | rfl | cases h.1
section ZL
variable {G : zG} {X : zX} {M M' : zM} {n n1 cells slots pc : Nat} {lo st st0 : List Value} {w wc : zW} {Wd : Bool → zW} {a3 : zA3} {b : Bool}
theorem zl_fin {ls : Array Slot} {H : Heap} {locs : List Loc} {aa : Array Value} {st0 : List Value} {Q1 : Option Value → zW → Prop}
    (hr : va_Run X.1 G.1 X.2.1 (zrm M) X.2.2.1 X.2.2.2.1 X.2.2.2.2.1 X.2.2.2.2.2.1 X.2.2.2.2.2.2.1 X.2.2.2.2.2.2.2.1 H locs cells slots M'.2.2.2.2.2.2.1 M'.2.2.2.2.2.2.2 (F0 X.2.2.2.1 pc ls st0) (st.map (zmv G)) (zQc (zGb G b) 166 Q1 aa) (zA (zGb G b)))
    (hS : va_S (zA G) X.2.2.1.heap H locs) (hA : ∀ q, zA (zGb G b) q → zA G q)
    (kk : ∀ (v : Option Value) (w1 : zW) (H1 : Heap) (locs1 : List Loc), Q1 v w1 → zRep (zGb G b) 166 w1 H1 → (∀ q : Nat, q < H.size → ¬ zA (zGb G b) q → H1[q]? = H[q]?) → H1.size ≤ X.2.2.1.heap.size + (cells + M'.2.2.2.2.2.2.1) → va_S (zA G) X.2.2.1.heap H1 locs1 →
      W X.1 G.1 X.2.1 (zrm M) X.2.2.1 X.2.2.2.1 X.2.2.2.2.1 X.2.2.2.2.2.1 X.2.2.2.2.2.2.1 X.2.2.2.2.2.2.2.1 H1 locs1 (cells + M'.2.2.2.2.2.2.1) (slots + M'.2.2.2.2.2.2.2) X.2.2.2.2.2.2.2.2 (F0 X.2.2.2.1 (pc + 3) ls ((v.map (zmv (zGb G b))).toList ++ st.map (zmv G)))) :
    W X.1 G.1 X.2.1 (zrm M) X.2.2.1 X.2.2.2.1 X.2.2.2.2.1 X.2.2.2.2.2.1 X.2.2.2.2.2.2.1 X.2.2.2.2.2.2.2.1 H locs cells slots X.2.2.2.2.2.2.2.2 (F0 X.2.2.2.1 pc ls st0) := by
  intro T hT Xs
  obtain ⟨v, st₀, t, T', L, h0, X', hL, e1, e2, ⟨⟨r, w1, hv, hq, hrep⟩, hz, hk⟩, st9⟩ := hr T hT Xs
  have hv := Outcome.returned.inj hv
  subst hv
  rw [h0] at hz hk
  have hS1 : va_S (zA G) X.2.2.1.heap T'.heap (locs ++ L) := ⟨Nat.le_trans hS.1 (by rw [e1]; exact hz), fun q h1 h2 => by rw [e1, hk q (Nat.lt_of_lt_of_le h1 hS.1) (fun z => h2 (hA q z))]; exact hS.2.1 q h1 h2, fun q hq9 => by
    rcases List.mem_append.mp hq9 with h | h
    · exact hS.2.2 q h
    · exact hA _ (hL q h)⟩
  obtain ⟨t2, a1, b1⟩ := kk r w1 T'.heap (locs ++ L) hq (by rw [e1]; exact hrep) (by rw [e1]; exact hk) X'.heapSize hS1 T' rfl X'
  exact ⟨t2, st9 t2 a1, b1⟩
/-- a call on one of the two -/
theorem zl_callV {idx a : Nat} {As : List Value} {Q1 : Int32 → zW → Prop} (hX : zH G X M) (hu : zUn n) (hn : 332 ≤ n) (d : decode M.2.1 pc = .ok (.invokevirtual idx, 3)) (hy : zCal M' a) (hm : Cond.methodLink M.1.cls idx M'.1 ∈ zTB) (hv : zVir M' 11) (hr : zRoom M M' = true)
    (hC : zC (zGb G b) M' (.ref 0 :: As) 166 (Wd b) 166 (fun v w1 => ∃ r, v = some (.int r) ∧ Q1 r w1)) (ha : As.length = a) (hi : As.all zisI = true) (hst : st0 = As.reverse ++ .ref (zro b) :: st)
    (hw : (st.map fun v => v.category).sum ≤ 8) (h0 : (M'.2.2.2.2.2.2.1, M'.2.2.2.2.2.2.2) = (0, 0)) (hf : cells ≤ M.2.2.2.2.2.2.1 ∧ slots ≤ M.2.2.2.2.2.2.2)
    (kk : ∀ r w1, Q1 r w1 → zk G X M n cells slots (pc + 3) lo (.int r :: st) (zcm (zub Wd b w1) a3)) : zk G X M n cells slots pc lo st0 (zcm Wd a3) := by
  intro H locs hR hS ls hl
  obtain ⟨v1, v2, T, N, v3⟩ := hv
  have hts := hX.2.2.2.2.1
  have h1 : M'.2.2.2.2.2.2.1 = 0 := congrArg Prod.fst h0
  have h2 : M'.2.2.2.2.2.2.2 = 0 := congrArg Prod.snd h0
  have hro : zro b ≤ 166 := by cases b <;> decide
  have hW : zro b + 166 ≤ zWd G := by
    have := hR.2.1
    omega
  have hRb := zcm_rep (b := b) hn hR
  have hsz : zB G + zro b ≤ H.size := by
    have := (hRb.2.2 0 _ (zws_at (by decide))).lt
    rw [zB_b] at this
    omega
  have hA := zA_b (G := G) (b := b) hW
  subst hst
  have est : ((As.reverse ++ Value.ref (zro b) :: st).map (zmv G)) = (As.map (zmv (zGb G b))).reverse ++ .ref (zB (zGb G b) + 0) :: st.map (zmv G) := by
    rw [List.map_append, List.map_reverse, zisI_m (G' := zGb G b) hi]
    rfl
  rw [est]
  refine zl_fin (M' := M') (b := b) (va_runV (As := As.map (zmv (zGb G b))) (rest := st.map (zmv G)) (n := a) ⟨hX.1, hX.2.1, hX.2.2.1, hX.2.2.2.1, hts⟩ hC ⟨callB_of a hts (zWs_good hy) rfl rfl rfl (hts _ hy.2.1) (hts _ hm) hy.2.2.1 (zRoom_ok hr), hts _ v1, hts _ v2⟩
    ⟨zC.blind, va_recv (q0 := 0) hX.2.2.2.2.2.1.1 hRb.2.2 v3 (by rw [zws_at (by decide), zc0 (show zsh 0 = (0, 11, 0) by decide +kernel)]), fun U hU hW9 => ⟨rfl, by rw [hU]; exact hRb, zK_b (hX.2.2.2.2.2.1.go hS hU hW9) (by rw [hU]; exact hsz) hW⟩⟩ rfl (by rw [List.length_map]; exact ha) hl.1 rfl (lv_room (by rw [zcat]; exact hw)) d ⟨by show cells + _ ≤ M.2.2.2.2.2.2.1; omega, by show slots + _ ≤ M.2.2.2.2.2.2.2; omega⟩) hS hA (fun v w1 H1 locs1 hq hrep hk hz hS1 => ?_)
  obtain ⟨r, rfl, hq⟩ := hq
  rw [h1, h2, Nat.add_zero, Nat.add_zero]
  exact kk r w1 hq H1 locs1 (zcm_back hR (fun h => absurd hu h) hrep hk) hS1 ls hl
def zAr (n k L : Nat) : Prop := (332 ≤ k ∧ k < n) ∧ zsh k = (1, 0, L) ∧ L ≤ 5000
theorem zcm_a {k : Nat} (h : 332 ≤ k) : (zcm Wd a3).1 k = a3 k := by
  funext j
  show (if k < 166 then _ else if k < 332 then _ else _) = _
  rw [if_neg (by omega), if_neg (by omega)]
theorem zcm_u {k j : Nat} {x : Int32} (h : 332 ≤ k) : zsi (zcm Wd a3) k j x = zcm Wd (zu3 a3 k j x) := by
  unfold zsi
  refine Prod.ext ?_ rfl
  funext c i
  show (if c = k ∧ i = j then x else _) = (if c < 166 then _ else if c < 332 then _ else zu3 a3 k j x c i)
  by_cases h1 : c < 166
  · rw [if_neg (fun q => by omega), if_pos h1]
    exact if_pos h1
  · by_cases h2 : c < 332
    · rw [if_neg (fun q => by omega), if_neg h1, if_pos h2]
      show (if c < 166 then _ else if c < 332 then _ else _) = _
      rw [if_neg h1, if_pos h2]
    · rw [if_neg h1, if_neg h2]
      unfold zu3
      by_cases h3 : c = k ∧ i = j
      · rw [if_pos h3, if_pos h3]
      · rw [if_neg h3, if_neg h3]
        show (if c < 166 then _ else if c < 332 then _ else _) = _
        rw [if_neg h1, if_neg h2]
theorem zl_ialdE (hX : zH G X M) {k L j : Nat} {i : Int32} (d : decode M.2.1 pc = .ok (.iaload, 1)) (e : i = nI j) (hz : zAr n k L) (hj : j < L) (kk : zk G X M n cells slots (pc + 1) lo (.int (a3 k j) :: st) (zcm Wd a3)) : zk G X M n cells slots pc lo (.int i :: .ref k :: st) (zcm Wd a3) := by
  subst e
  obtain ⟨⟨h1, h2⟩, h3, h4⟩ := hz
  refine zk_iald hX d h2 h3 (vp_in_nI hj (by omega)) ?_
  rw [nI_clamp (by omega), zcm_a h1]
  exact kk
theorem zl_iastE (hX : zH G X M) (hu : zUn n) {k L j : Nat} {i x : Int32} (d : decode M.2.1 pc = .ok (.iastore, 1)) (e : i = nI j) (hz : zAr n k L) (hj : j < L) (kk : zk G X M n cells slots (pc + 1) lo st (zcm Wd (zu3 a3 k j x))) : zk G X M n cells slots pc lo (.int x :: .int i :: .ref k :: st) (zcm Wd a3) := by
  subst e
  obtain ⟨⟨h1, h2⟩, h3, h4⟩ := hz
  refine zk_iast hX d hu h2 h3 (vp_in_nI hj (by omega)) ?_
  rw [nI_clamp (by omega), zcm_u h1]
  exact kk
theorem zl_if_eqB (hX : zH G X M) {p : Prop} [Decidable p] {off : Int} {tgt : Nat} (d : decode M.2.1 pc = .ok (.ifCond .eq off, 3)) (ht : (pc : Int) + off = (tgt : Int)) (kt : ¬ p → zk G X M n cells slots tgt lo st w) (kf : p → zk G X M n cells slots (pc + 3) lo st w) : zk G X M n cells slots pc lo (.int (zb p) :: st) w :=
  zk_if_eq hX d ht (fun h => kt (zb_0.mp h)) (fun h => kf (Decidable.not_not.mp (fun q => h (zb_0.mpr q))))
theorem zl_if_neB (hX : zH G X M) {p : Prop} [Decidable p] {off : Int} {tgt : Nat} (d : decode M.2.1 pc = .ok (.ifCond .ne off, 3)) (ht : (pc : Int) + off = (tgt : Int)) (kt : p → zk G X M n cells slots tgt lo st w) (kf : ¬ p → zk G X M n cells slots (pc + 3) lo st w) : zk G X M n cells slots pc lo (.int (zb p) :: st) w :=
  zk_if_ne hX d ht (fun h => kt (Decidable.not_not.mp (fun q => h (zb_0.mpr q)))) (fun h => kf (zb_0.mp h))
/-- the law's own methods: an int or nothing -/
abbrev zDi (G : zG) (n : Nat) (M : zM) (args : List Value) (Wd : Bool → zW) (a3 : zA3) (Q : Int32 → (Bool → zW) → zA3 → Prop) : Prop := zC G M args n (zcm Wd a3) n (fun v w => ∃ r, v = some (.int r) ∧ ∃ Wd1 a1, w = zcm Wd1 a1 ∧ Q r Wd1 a1)
abbrev zDv (G : zG) (n : Nat) (M : zM) (args : List Value) (Wd : Bool → zW) (a3 : zA3) (Q : (Bool → zW) → zA3 → Prop) : Prop := zC G M args n (zcm Wd a3) n (fun v w => v = none ∧ ∃ Wd1 a1, w = zcm Wd1 a1 ∧ Q Wd1 a1)
theorem zl_callS {idx a : Nat} {As : List Value} {Q1 : Int32 → (Bool → zW) → zA3 → Prop} (hX : zH G X M) (d : decode M.2.1 pc = .ok (.invokestatic idx, 3)) (hy : zCal M' a) (hm : Cond.methodLink M.1.cls idx M'.1 ∈ zTB) (hv : Cond.static M'.1 ∈ zTB) (hr : zRoom M M' = true) (hC : zDi G n M' As Wd a3 Q1) (ha : As.length = a) (hst : st0 = As.reverse ++ st)
    (hw : (st.map fun v => v.category).sum ≤ 8) (h0 : (M'.2.2.2.2.2.2.1, M'.2.2.2.2.2.2.2) = (0, 0)) (hf : cells ≤ M.2.2.2.2.2.2.1 ∧ slots ≤ M.2.2.2.2.2.2.2)
    (kk : ∀ r Wd1 a1, Q1 r Wd1 a1 → zk G X M n cells slots (pc + 3) lo (.int r :: st) (zcm Wd1 a1)) : zk G X M n cells slots pc lo st0 (zcm Wd a3) := by
  have h1 : M'.2.2.2.2.2.2.1 = 0 := congrArg Prod.fst h0
  have h2 : M'.2.2.2.2.2.2.2 = 0 := congrArg Prod.snd h0
  refine zk_callS hX d hy hm hv hr hC ha hst hw ⟨by omega, by omega⟩ (fun v w1 hq => ?_)
  obtain ⟨r, rfl, Wd1, a1, rfl, hq⟩ := hq
  rw [h1, h2, Nat.add_zero, Nat.add_zero]
  exact kk r Wd1 a1 hq
theorem zl_callSv {idx a : Nat} {As : List Value} {Q1 : (Bool → zW) → zA3 → Prop} (hX : zH G X M) (d : decode M.2.1 pc = .ok (.invokestatic idx, 3)) (hy : zCal M' a) (hm : Cond.methodLink M.1.cls idx M'.1 ∈ zTB) (hv : Cond.static M'.1 ∈ zTB) (hr : zRoom M M' = true) (hC : zDv G n M' As Wd a3 Q1) (ha : As.length = a) (hst : st0 = As.reverse ++ st)
    (hw : (st.map fun v => v.category).sum ≤ 8) (h0 : (M'.2.2.2.2.2.2.1, M'.2.2.2.2.2.2.2) = (0, 0)) (hf : cells ≤ M.2.2.2.2.2.2.1 ∧ slots ≤ M.2.2.2.2.2.2.2)
    (kk : ∀ Wd1 a1, Q1 Wd1 a1 → zk G X M n cells slots (pc + 3) lo st (zcm Wd1 a1)) : zk G X M n cells slots pc lo st0 (zcm Wd a3) := by
  have h1 : M'.2.2.2.2.2.2.1 = 0 := congrArg Prod.fst h0
  have h2 : M'.2.2.2.2.2.2.2 = 0 := congrArg Prod.snd h0
  refine zk_callS hX d hy hm hv hr hC ha hst hw ⟨by omega, by omega⟩ (fun v w1 hq => ?_)
  obtain ⟨rfl, Wd1, a1, rfl, hq⟩ := hq
  rw [h1, h2, Nat.add_zero, Nat.add_zero]
  exact kk Wd1 a1 hq
/-- a constructor's call: of the first object, of the second -/
theorem zl_callI {idx a : Nat} (hX : zH G X M) {w' w1 : zW} {n' r0 : Nat} (hro : r0 = zro b) (d : decode M.2.1 pc = .ok (.invokespecial idx, 3)) (hy : zCal M' 0) (hm : Cond.methodLink M.1.cls idx M'.1 ∈ zTB) (hi : Cond.instanceMethod M'.1 ∈ zTB) (hn : M'.1.name = "<init>" ∧ M'.2.2.2.1 = none) (hr : zRoom M M' = true)
    (hC : zC (zGb G b) M' [.ref 0] 1 wc 166 (fun v w2 => v = none ∧ w2 = w1)) (hW : zro b + 166 ≤ zWd G)
    (hw : (st.map fun v => v.category).sum ≤ 8) (hf : cells + M'.2.2.2.2.2.2.1 ≤ M.2.2.2.2.2.2.1 ∧ slots + M'.2.2.2.2.2.2.2 ≤ M.2.2.2.2.2.2.2)
    (h1 : ∀ H, zRep G n w H → zRep (zGb G b) 1 wc H) (h2 : ∀ H H1, zRep G n w H → zRep (zGb G b) 166 w1 H1 → (∀ q : Nat, q < H.size → ¬ zA (zGb G b) q → H1[q]? = H[q]?) → H1.size ≤ X.2.2.1.heap.size + (cells + M'.2.2.2.2.2.2.1) → zRep G n' w' H1)
    (kk : zk G X M n' (cells + M'.2.2.2.2.2.2.1) (slots + M'.2.2.2.2.2.2.2) (pc + 3) lo st w') : zk G X M n cells slots pc lo (.ref r0 :: st) w := by
  subst hro
  intro H locs hR hS ls hl
  have hts := hX.2.2.2.2.1
  obtain ⟨hn1, hn2⟩ := hn
  have hRb := h1 H hR
  have hsz : zB G + zro b ≤ H.size := by
    have := (hRb.2.2 0 _ (zws_at (by decide))).lt
    rw [zB_b] at this
    omega
  have hA := zA_b (G := G) (b := b) hW
  have est : ((Value.ref (zro b) :: st).map (zmv G)) = ([] : List Value).reverse ++ .ref (zB (zGb G b) + 0) :: st.map (zmv G) := rfl
  rw [est]
  refine zl_fin (M' := M') (b := b) (va_runI (As := []) (rest := st.map (zmv G)) (n := 0) (ws := zWs M') (rm := zrm M') (bytes := M'.2.1) (maxL := M'.2.2.1) (y := M'.1) ⟨hX.1, hX.2.1, hX.2.2.1, hX.2.2.2.1, hts⟩ hC ⟨callB_of 0 hts (zWs_good hy) (by unfold zWs; rw [hn2]) rfl rfl (hts _ hy.2.1) (hts _ hm) hy.2.2.1 (zRoom_ok hr), hn1, hts _ hi⟩
    ⟨zC.blind, fun U hU hW9 => ⟨rfl, by rw [hU]; exact hRb, zK_b (hX.2.2.2.2.2.1.go hS hU hW9) (by rw [hU]; exact hsz) hW⟩⟩ rfl rfl hl.1 rfl (lv_room (by rw [zcat]; exact hw)) d hf) hS hA (fun v w2 H1 locs1 hq hrep hk hz hS1 => ?_)
  obtain ⟨rfl, rfl⟩ := hq
  exact kk H1 locs1 (h2 H H1 hR hrep hk hz) hS1 ls hl
end ZL
