/-! cells that are made: the world is nil at a cell that isn't yet -/
def zNil (w : zW) (n : Nat) : Prop := (∀ j, w.1 n j = 0) ∧ (∀ j, w.2.1 n j = 0) ∧ ∀ j, w.2.2 n j = none
def zNew (w : zW) (n : Nat) : Prop := ∀ a, n ≤ a → zNil w a
theorem zNew.le {w : zW} {n m : Nat} (h : zNew w n) (hm : n ≤ m) : zNew w m := fun a ha => h a (Nat.le_trans hm ha)
theorem zNew_i {w : zW} {n k j : Nat} {x : Int32} (h : zNew w n) (hk : k < n) : zNew (zsi w k j x) n := fun a ha => by
  have hne : a ≠ k := by omega
  obtain ⟨h1, h2, h3⟩ := h a ha
  exact ⟨fun i => by rw [show (zsi w k j x).1 a i = if a = k ∧ i = j then x else w.1 a i from rfl, if_neg (fun h => hne h.1)]; exact h1 i, h2, h3⟩
theorem zNew_l {w : zW} {n k j : Nat} {x : Int64} (h : zNew w n) (hk : k < n) : zNew (zsl w k j x) n := fun a ha => by
  have hne : a ≠ k := by omega
  obtain ⟨h1, h2, h3⟩ := h a ha
  exact ⟨h1, fun i => by rw [show (zsl w k j x).2.1 a i = if a = k ∧ i = j then x else w.2.1 a i from rfl, if_neg (fun h => hne h.1)]; exact h2 i, h3⟩
theorem zNew_r {w : zW} {n k j : Nat} {x : Option Nat} (h : zNew w n) (hk : k < n) : zNew (zsr w k j x) n := fun a ha => by
  have hne : a ≠ k := by omega
  obtain ⟨h1, h2, h3⟩ := h a ha
  exact ⟨h1, h2, fun i => by rw [show (zsr w k j x).2.2 a i = if a = k ∧ i = j then x else w.2.2 a i from rfl, if_neg (fun h => hne h.1)]; exact h3 i⟩
/-- the cells of a new array of arrays -/
def zmw (w : zW) (n N : Nat) : zW := (w.1, w.2.1, fun a i => if a = n ∧ i < N then some (n + 1 + i) else w.2.2 a i)
theorem zNew_m {w : zW} {n m N : Nat} (h : zNew w n) (hk : n < m) : zNew (zmw w n N) m := fun a ha => by
  have hne : a ≠ n := by omega
  obtain ⟨h1, h2, h3⟩ := h a (by omega)
  exact ⟨h1, h2, fun i => by rw [show (zmw w n N).2.2 a i = if a = n ∧ i < N then some (n + 1 + i) else w.2.2 a i from rfl, if_neg (fun h => hne h.1)]; exact h3 i⟩
def zdV (kd : Nat) : Value := match kd with
  | 0 => .int 0
  | 1 => .long 0
  | _ => .null
theorem zfv_nil {G : zG} {w : zW} {n j kd : Nat} (h : zNil w n) : zfv G w n j kd = zdV kd := by
  obtain ⟨h1, h2, h3⟩ := h
  match kd with
  | 0 => simp [zfv, zdV, h1]
  | 1 => simp [zfv, zdV, h2]
  | k + 2 => simp [zfv, zdV, h3, va_rf]
def zNw (own : String) (idx c : Nat) : Prop := ∃ (C : String) (T : u_T) (N : Nat) (ty : Nat → FieldType), vwCl[c]? = some (C, T, N) ∧ (∀ k, k < N → parseFieldDescriptor (T k).2.2.1 = some (ty k)) ∧ (∀ w ∈ u_ws C T N, w ∈ zTB) ∧ Cond.classLink own idx C ∈ zTB ∧ Cond.instantiable C N ∈ zTB ∧ Cond.initialized C ∈ zTB ∧ (zfk c).length = N ∧ ∀ j, j < N → defaultValue (ty j) = zdV ((zfk c).getD j 0)
section ZMK
variable {G : zG} {X : zX} {M : zM} {n cells slots pc : Nat} {lo st : List Value} {w : zW}
theorem zUn_lt {k : Nat} (h : k < zN) : ¬ zUn k := by
  have : zN = 166 := rfl
  unfold zUn
  omega
theorem zRep_app {H H1 : Heap} (hR : zRep G n w H) (hs : H.size = zB G + n) (hw9 : n + 1 ≤ zWd G) (z : H1.size = H.size + 1) (o : ∀ q : Nat, q < H.size → H1[q]? = H[q]?) (he : va_at G.2.1 vwCl (zB G + n, zcell G w n) H1) : zRep G (n + 1) w H1 := by
  refine ⟨fun _ => by omega, hw9, ?_⟩
  rw [← zws_app (e := zcell G w n) rfl]
  refine (hR.2.2.kept (fun k x hx => o x.1 ((hR.2.2 k x hx).lt))).app (fun k x hx => ?_)
  have hz : k < 1 := (List.getElem?_eq_some_iff.mp hx).1
  rw [show k = 0 by omega] at hx
  cases hx
  exact he
theorem zS_app {A : Nat → Prop} {H0 H H1 : Heap} {locs : List Loc} (hS : va_S A H0 H locs) (z : H.size ≤ H1.size) (o : ∀ q : Nat, q < H.size → H1[q]? = H[q]?) : va_S A H0 H1 locs :=
  ⟨Nat.le_trans hS.1 z, fun x h1 h2 => (o x (Nat.lt_of_lt_of_le h1 hS.1)).trans (hS.2.1 x h1 h2), hS.2.2⟩
theorem zk_nrm {n' cells' slots' : Nat} {w' : zW} (hn : n = n') (hc : cells = cells') (hs : slots = slots') (hw : w = w') (kk : zk G X M n' cells' slots' pc lo st w') : zk G X M n cells slots pc lo st w := by
  subst hn hc hs hw
  exact kk
theorem zk_widen {cells' slots' : Nat} (hc : cells ≤ cells') (hs : slots ≤ slots') (kk : zk G X M n cells' slots' pc lo st w) : zk G X M n cells slots pc lo st w :=
  fun H locs hR hS ls hl => W.widen hc hs (kk H locs hR hS ls hl)
theorem zk_new (hX : zH G X M) {idx c : Nat} (d : decode M.2.1 pc = .ok (.new idx, 3)) (f : zNw M.1.cls idx c) (hn : n < zN) (hz : zsh n = (0, c, 0)) (hw : zNil w n) (hf : cells + 1 ≤ M.2.2.2.2.2.2.1 ∧ slots + (zfk c).length ≤ M.2.2.2.2.2.2.2)
    (kk : zk G X M (n + 1) (cells + 1) (slots + (zfk c).length) (pc + 3) lo (.ref n :: st) w) : zk G X M n cells slots pc lo st w := by
  intro H locs hR hS ls hl
  obtain ⟨C, T, N, ty, f1, f2, f3, f4, f5, f6, f7, f8⟩ := f
  have hts := hX.2.2.2.2.1
  have hKn := hX.2.2.2.2.2.1.1.1 c _ f1
  subst f7
  have hs := hR.1 (zUn_lt hn)
  have hw9 : n + 1 ≤ zWd G := by
    have := hX.2.2.2.2.2.1.2.2.2.1
    omega
  refine W.newcK hX.1 hX.2.1 hX.2.2.2.1 (hts _ f4) (hts _ f5) (hts _ f6) rfl d hf.1 hf.2 hKn.2.1 hs fun H1 kC hkC e1 z1 o1 => ?_
  have o1' : ∀ q : Nat, q < H.size → H1[q]? = H[q]? := fun q hq => o1 q (by omega)
  refine kk H1 locs (zRep_app hR hs hw9 (by rw [z1, hs]) o1' ?_) (zS_app hS (by omega) o1') ls hl
  rw [zc0 hz]
  refine ⟨_, f1, (u_born ty hts f3 hKn hkC e1 f2).to fun j hj => ?_⟩
  rw [f8 j hj]
  have e : (zfk c)[j]? = some ((zfk c).getD j 0) := by
    rw [List.getElem?_eq_getElem hj, List.getD_eq_getElem?_getD, List.getElem?_eq_getElem hj]
    rfl
  show _ = (zfs G w n c).getD j .null
  have e2 : (zfs G w n c).getD j .null = zdV ((zfk c).getD j 0) := by
    rw [List.getD_eq_getElem?_getD (l := zfs G w n c), zfs_at e, zfv_nil hw]
    rfl
  rw [e2]
theorem zk_newa1 (hX : zH G X M) {at0 : ArrayType} {t N : Nat} {x : Int32} (d : decode M.2.1 pc = .ok (.newarray at0, 2)) (ha : Cond.arrayClass (newarray.typeOf at0) ∈ zTB) (ht : (zty G.2.2.1)[t]? = some (G.2.2.1 t, newarray.typeOf at0)) (hd : defaultValue (newarray.typeOf at0) = .int 0) (hx : ¬ x < 0) (hN : x.toNatClampNeg = N) (hb : N * componentBytes (newarray.typeOf at0) ≤ 536870912) (hn : n < zN) (hz : zsh n = (1, t, N)) (hw : zNil w n) (hf : cells + 1 ≤ M.2.2.2.2.2.2.1 ∧ slots + N ≤ M.2.2.2.2.2.2.2)
    (kk : zk G X M (n + 1) (cells + 1) (slots + N) (pc + 2) lo (.ref n :: st) w) : zk G X M n cells slots pc lo (.int x :: st) w := by
  intro H locs hR hS ls hl
  have hs := hR.1 (zUn_lt hn)
  have hw9 : n + 1 ≤ zWd G := by
    have := hX.2.2.2.2.2.1.2.2.2.1
    omega
  refine va_newaK hX.1 hX.2.1 (hX.2.2.2.2.1 _ ha) rfl d rfl hx hN hb hf.1 hf.2 hs fun H1 cA e1 z1 o1 hAr hNm => ?_
  have hcA : cA = G.2.2.1 t := by
    have h := (hX.2.2.2.2.2.1.1.2 t _ ht).2
    have h' : X.2.2.1.vm.findClass ("[" ++ (newarray.typeOf at0).toString) = some (G.2.2.1 t) := by cases at0 <;> exact h
    exact Option.some.inj (hNm.symm.trans h')
  subst hcA
  have o1' : ∀ q : Nat, q < H.size → H1[q]? = H[q]? := fun q hq => o1 q (by omega)
  refine kk H1 locs (zRep_app hR hs hw9 (by rw [z1, hs]) o1' ?_) (zS_app hS (by omega) o1') ls hl
  rw [zc1 hz]
  show H1[zB G + n]? = some (vp_cell _ _)
  rw [vp_cell_i, e1, hd]
  congr 2
  funext j
  rw [hw.1 j]
theorem zk_newa2 (hX : zH G X M) {N : Nat} {x : Int32} (d : decode M.2.1 pc = .ok (.newarray .long, 2)) (ha : Cond.arrayClass .long ∈ zTB) (hx : ¬ x < 0) (hN : x.toNatClampNeg = N) (hb : N * 8 ≤ 536870912) (hn : n < zN) (hz : zsh n = (2, 3, N)) (hw : zNil w n) (hf : cells + 1 ≤ M.2.2.2.2.2.2.1 ∧ slots + N ≤ M.2.2.2.2.2.2.2)
    (kk : zk G X M (n + 1) (cells + 1) (slots + N) (pc + 2) lo (.ref n :: st) w) : zk G X M n cells slots pc lo (.int x :: st) w := by
  intro H locs hR hS ls hl
  have hs := hR.1 (zUn_lt hn)
  have hw9 : n + 1 ≤ zWd G := by
    have := hX.2.2.2.2.2.1.2.2.2.1
    omega
  refine va_newaK (atype := .long) hX.1 hX.2.1 (hX.2.2.2.2.1 _ ha) rfl d rfl hx hN hb hf.1 hf.2 hs fun H1 cA e1 z1 o1 hAr hNm => ?_
  have hcA : cA = G.2.2.1 3 := by
    have h := (hX.2.2.2.2.2.1.1.2 3 (G.2.2.1 3, .long) rfl).2
    exact Option.some.inj (hNm.symm.trans h)
  subst hcA
  have o1' : ∀ q : Nat, q < H.size → H1[q]? = H[q]? := fun q hq => o1 q (by omega)
  refine kk H1 locs (zRep_app hR hs hw9 (by rw [z1, hs]) o1' ?_) (zS_app hS (by omega) o1') ls hl
  rw [zc2 hz]
  show H1[zB G + n]? = some (vp_cell _ _)
  rw [vp_cell_l, e1]
  congr 2
  funext j
  rw [hw.2.1 j]
  rfl
theorem zk_anew (hX : zH G X M) {idx t N : Nat} {C : String} {x : Int32} (d : decode M.2.1 pc = .ok (.anewarray idx, 3)) (hc : Cond.classLink M.1.cls idx C ∈ zTB) (ho : va_AO C X.2.2.1) (ht : (zty G.2.2.1)[t]? = some (G.2.2.1 t, .object C)) (hx : ¬ x < 0) (hN : x.toNatClampNeg = N) (hb : N * 4 ≤ 536870912) (hn : n < zN) (hz : zsh n = (3, t, N)) (hw : zNil w n) (hf : cells + 1 ≤ M.2.2.2.2.2.2.1 ∧ slots + N ≤ M.2.2.2.2.2.2.2)
    (kk : zk G X M (n + 1) (cells + 1) (slots + N) (pc + 3) lo (.ref n :: st) w) : zk G X M n cells slots pc lo (.int x :: st) w := by
  intro H locs hR hS ls hl
  subst hN
  have hs := hR.1 (zUn_lt hn)
  have hw9 : n + 1 ≤ zWd G := by
    have := hX.2.2.2.2.2.1.2.2.2.1
    omega
  refine W.anew hX.1 hX.2.1 hX.2.2.2.1 (hX.2.2.2.2.1 _ hc) (va_AO.use ho) rfl d rfl hx hb hf.1 hf.2 fun cA kA comp f1 f2 f3 f4 => ?_
  obtain ⟨kA', comp', h1, h2, h3, h4⟩ := (hX.2.2.2.2.2.1.1.2 t _ ht).2
  have hcA : cA = G.2.2.1 t := Option.some.inj (f1.symm.trans h4)
  subst hcA
  generalize hH1 : H.push ({ cls := G.2.2.1 t, slots := Array.replicate x.toNatClampNeg .null, vm := .none } : Cell) = H1
  have z1 : H1.size = H.size + 1 := by rw [← hH1, Array.size_push]
  have e1 : H1[H.size]? = some (arrV (G.2.2.1 t) x.toNatClampNeg (fun _ => .null)) := by rw [← hH1, Array.getElem?_push_size, ← arrV_new]
  have o1 : ∀ q : Nat, q < H.size → H1[q]? = H[q]? := fun q hq => by rw [← hH1, Array.getElem?_push, if_neg (Nat.ne_of_lt hq)]
  have hR1 : zRep G (n + 1) w H1 := zRep_app hR hs hw9 z1 o1 (by
    rw [zc3 hz]
    show H1[zB G + n]? = some (vp_cell _ _)
    rw [vp_cell_q, ← hs, e1]
    congr 2
    funext j
    rw [hw.2.2 j]
    rfl)
  rw [hs]
  exact kk H1 locs hR1 (zS_app hS (by omega) o1) ls hl
theorem zk_aast (hX : zH G X M) {k v t L c : Nat} {r : vw_C} {i : Int32} (d : decode M.2.1 pc = .ok (.aastore, 1)) (hk : k < n) (hv : v < n) (hz : zsh k = (3, t, L)) (hz2 : zsh v = (0, c, 0)) (ht : (zty G.2.2.1)[t]? = some (G.2.2.1 t, .object r.1)) (hc : vwCl[c]? = some r) (hi : vp_in i L)
    (kk : zk G X M n cells slots (pc + 1) lo st (zsr w k i.toNatClampNeg (some v))) : zk G X M n cells slots pc lo (.ref v :: .int i :: .ref k :: st) w := by
  intro H locs hR hS ls hl
  have hlt : i.toNatClampNeg < L := Nat.not_le.mp fun q => hi (Or.inr q)
  have h0 : ¬ i < 0 := fun q => hi (Or.inl q)
  have hK := hX.2.2.2.2.2.1.1
  have ha : (zws G n w)[k]? = some (zB G + k, .inl (G.2.2.1 t, L, .inr (.inr (.inr (.inr (fun j => (w.2.2 k j).map (zB G + ·))))))) := by rw [zws_at hk, zc3 hz]
  have hv9 : (zws G n w)[v]? = some (zB G + v, .inr (c, zfs G w v c)) := by rw [zws_at hv, zc0 hz2]
  obtain ⟨r', hr', cellV, g1, g2, g3, -⟩ := hR.2.2 v _ hv9
  have hcls := (hK.1 c r hc).2
  obtain ⟨kA, comp, k1, k2, k3, -⟩ := (hK.2 t _ ht).2
  have hcomp : comp = G.2.1.1 c := Option.some.inj (k3.symm.trans hcls.1)
  subst hcomp
  obtain ⟨kC, hkC, -⟩ := hcls.2
  refine W.aast hX.1 hX.2.1 (hR.2.2 k _ ha) (fun q h => by cases h) (fun h => by cases h) k1 k2 rfl hkC ⟨h0, by show _ < (arrV _ _ _).slots.size; rw [arrV_size]; exact hlt⟩ g1 (fun q h => by rw [g3] at h; cases h) (by rw [g2]; exact hkC) (by rw [g2]; exact va_assign hcls) rfl rfl d fun H1 e z oq => ?_
  have hP : va_P G.2.1 vwCl ((zws G n w).set k (zB G + k, .inl (G.2.2.1 t, L, .inr (.inr (.inr (.inr (va_up (fun j => (w.2.2 k j).map (zB G + ·)) i.toNatClampNeg (some (zB G + v))))))))) H1 := by
    refine hR.2.2.set (zws_D hR.2.1) ha ?_ oq
    show H1[zB G + k]? = some (vp_cell _ _)
    rw [e]
    rw [vp_cell_q, vp_cell_q, arrV_store]
    congr 2
    funext q
    by_cases hq : q = i.toNatClampNeg
    · subst hq
      simp [updV, va_up, va_rf]
    · simp [updV, va_up, hq]
  rw [zws_set (w' := zsr w k i.toNatClampNeg (some v)) ?_ zo_r] at hP
  · exact kk H1 _ ⟨fun hn => by rw [z]; exact hR.1 hn, hR.2.1, hP⟩ (hS.put z oq (zA_k hk hR.2.1)) ls hl
  · rw [zc3 hz]
    congr 7
    funext j
    by_cases hj : j = i.toNatClampNeg
    · simp [zsr, va_up, hj]
    · simp [zsr, va_up, hj]
theorem zk_mna (hX : zH G X M) {idx N K : Nat} {x y : Int32} (d : decode M.2.1 pc = .ok (.multianewarray idx 2, 4)) (hc : Cond.classLink M.1.cls idx "[[I" ∈ zTB) (hca : Cond.arrayClass .int ∈ zTB) (hx : ¬ x < 0) (hy : ¬ y < 0) (hN : x.toNatClampNeg = N) (hK : y.toNatClampNeg = K) (hb : N * 4 ≤ 536870912 ∧ K * 4 ≤ 536870912) (hn : n + N < zN) (hz : zsh n = (3, 7, N)) (hz2 : ∀ j, j < N → zsh (n + 1 + j) = (1, 0, K)) (hw : zNew w n) (hf : cells + (1 + N) ≤ M.2.2.2.2.2.2.1 ∧ slots + (N + N * K) ≤ M.2.2.2.2.2.2.2)
    (kk : zk G X M (n + 1 + N) (cells + 1 + N) (slots + N + N * K) (pc + 4) lo (.ref n :: st) (zmw w n N)) : zk G X M n cells slots pc lo (.int y :: .int x :: st) w := by
  intro H locs hR hS ls hl T hT Xs
  subst hN
  subst hK
  have hs := hR.1 (zUn_lt (by omega))
  have es : "[" ++ (FieldType.array FieldType.int).toString = "[[I" := by decide +kernel
  obtain ⟨vm₁, cA, comp, -, fA, fC, hO, -, X', step⟩ := Xs.multianewarray2F hX.1 hX.2.2.2.1 (ty := .int) (by rw [es]; exact hX.2.2.2.2.1 _ hc) (va_AOA.use hX.2.2.2.2.2.1.2.1.2.2.2.2) (hX.2.2.2.2.1 _ hca) (g := F0 X.2.2.2.1 pc ls (.int y :: .int x :: st.map (zmv G))) rfl (by rw [hX.2.1]; exact d) rfl hx hy hb.1 hb.2 (by omega) rfl rfl hf.1 hf.2
  have hcy : X.2.2.1.vm.findClass (FieldType.array .int).toString = some (G.2.2.1 0) := (hX.2.2.2.2.2.1.1.2 0 (G.2.2.1 0, .int) rfl).2
  have hcz : X.2.2.1.vm.findClass ("[" ++ (FieldType.array .int).toString) = some (G.2.2.1 7) := (hX.2.2.2.2.2.1.1.2 7 (G.2.2.1 7, .array .int) rfl).2
  have e1 : comp = G.2.2.1 0 := Option.some.inj (fC.symm.trans hcy)
  have e2 : cA = G.2.2.1 7 := Option.some.inj (fA.symm.trans hcz)
  subst e1 e2
  generalize hF : Jvm.Free.Multi.fill (T.setVm vm₁) (G.2.2.1 7) (G.2.2.1 0) x.toNatClampNeg y.toNatClampNeg (defaultValue .int) x.toNatClampNeg = F at X' step
  have hTh : (T.setVm vm₁).heap = H := hT
  obtain ⟨f1, f2, -, -⟩ := Jvm.Free.Multi.fill_facts (T.setVm vm₁) (G.2.2.1 7) (G.2.2.1 0) x.toNatClampNeg y.toNatClampNeg (defaultValue .int) x.toNatClampNeg
  rw [hF, hTh] at f1 f2
  have hold : ∀ q : Nat, q < H.size → F.heap[q]? = H[q]? := fun q hq => by
    have := Jvm.Free.Multi.fill_old (T.setVm vm₁) (G.2.2.1 7) (G.2.2.1 0) x.toNatClampNeg y.toNatClampNeg (defaultValue .int) (a := q) (by rw [hTh]; exact hq) x.toNatClampNeg
    rw [hF, hTh] at this
    exact this
  have hrow : ∀ j : Nat, j < x.toNatClampNeg → F.heap[H.size + 1 + j]? = some (arrV (G.2.2.1 0) y.toNatClampNeg (fun _ => .int 0)) := fun j hj => by
    have := Jvm.Free.Multi.fill_inner (T.setVm vm₁) (G.2.2.1 7) (G.2.2.1 0) x.toNatClampNeg y.toNatClampNeg (defaultValue .int) x.toNatClampNeg j hj
    rw [hF, hTh] at this
    rw [this, ← arrV_new]
    rfl
  rw [vr_outer] at f2
  have hR1 : zRep G (n + 1 + x.toNatClampNeg) (zmw w n x.toNatClampNeg) F.heap := by
    refine ⟨fun _ => by rw [f1]; omega, by have := hX.2.2.2.2.2.1.2.2.2.1; omega, fun k q hq => ?_⟩
    have hk : k < n + 1 + x.toNatClampNeg := by
      have := (List.getElem?_eq_some_iff.mp hq).1
      rwa [zws_len] at this
    rw [zws_at hk] at hq
    cases hq
    by_cases h1 : k < n
    · have h2 : zcell G (zmw w n x.toNatClampNeg) k = zcell G w k := zcell_eq rfl rfl (by
        funext i
        show (if k = n ∧ i < x.toNatClampNeg then some (n + 1 + i) else w.2.2 k i) = _
        rw [if_neg (fun h => by omega)])
      rw [h2]
      have h3 := hR.2.2 k _ (zws_at h1)
      exact h3.kept (hold _ (by show zB G + k < H.size; omega))
    · by_cases h2 : k = n
      · subst h2
        rw [zc3 hz]
        show F.heap[zB G + k]? = some (vp_cell _ _)
        rw [vp_cell_q, ← hs, f2]
        congr 2
        funext j
        show va_rf (if j < x.toNatClampNeg then some (H.size + 1 + j) else none) = va_rf ((if k = k ∧ j < x.toNatClampNeg then some (k + 1 + j) else w.2.2 k j).map _)
        by_cases h9 : j < x.toNatClampNeg
        · rw [if_pos h9, if_pos ⟨rfl, h9⟩, hs]
          show va_rf (some (zB G + k + 1 + j)) = va_rf (some (zB G + (k + 1 + j)))
          rw [show zB G + (k + 1 + j) = zB G + k + 1 + j by omega]
        · rw [if_neg h9, if_neg (fun h => h9 h.2), (hw k (Nat.le_refl _)).2.2]
          rfl
      · obtain ⟨j, rfl⟩ : ∃ j, k = n + 1 + j := ⟨k - (n + 1), by omega⟩
        have hj : j < x.toNatClampNeg := by omega
        rw [zc1 (hz2 j hj)]
        show F.heap[zB G + (n + 1 + j)]? = some (vp_cell _ _)
        rw [vp_cell_i, show zB G + (n + 1 + j) = H.size + 1 + j by omega, hrow j hj]
        congr 2
        funext i
        rw [show (zmw w n x.toNatClampNeg).1 (n + 1 + j) i = 0 from (hw (n + 1 + j) (by omega)).1 i]
  obtain ⟨t, a1, b1⟩ := kk F.heap locs hR1 (zS_app hS (by rw [f1]; omega) hold) ls hl F rfl X'
  refine ⟨t, step t ?_, b1⟩
  have e : T.heap.size = zB G + n := by rw [hT]; exact hs
  rw [e]
  exact a1
theorem zpin {T : State} {H : Heap} {locs : List Loc} (hR : zRep G n w H) (hs0 : X.2.2.1.heap.size = zB G) (hc0 : cells = n) (hn0 : 0 < n) (hT : T.heap = H) (Xs : Stand X.1 G.1 X.2.1 (zrm M) X.2.2.1 X.2.2.2.1 X.2.2.2.2.1 X.2.2.2.2.2.1 X.2.2.2.2.2.2.1 X.2.2.2.2.2.2.2.1 T locs cells slots) : H.size = zB G + n := by
  have h1 := Xs.heapSize
  rw [hT, hs0, hc0] at h1
  obtain ⟨m, rfl⟩ : ∃ m, n = m + 1 := ⟨n - 1, by omega⟩
  have h2 : zB G + m < H.size := (hR.2.2 m _ (zws_at (Nat.lt_succ_self m))).lt
  omega
theorem zl_new (hX : zH G X M) {idx c : Nat} (d : decode M.2.1 pc = .ok (.new idx, 3)) (f : zNw M.1.cls idx c) (hs0 : X.2.2.1.heap.size = zB G) (hc0 : cells = n) (hn0 : 0 < n) (hw9 : n + 1 ≤ zWd G) (hz : zsh n = (0, c, 0)) (hw : zNil w n) (hf : cells + 1 ≤ M.2.2.2.2.2.2.1 ∧ slots + (zfk c).length ≤ M.2.2.2.2.2.2.2)
    (kk : zk G X M (n + 1) (cells + 1) (slots + (zfk c).length) (pc + 3) lo (.ref n :: st) w) : zk G X M n cells slots pc lo st w := by
  intro H locs hR hS ls hl T hT Xs
  have hs := zpin hR hs0 hc0 hn0 hT Xs
  suffices h9 : W X.1 G.1 X.2.1 (zrm M) X.2.2.1 X.2.2.2.1 X.2.2.2.2.1 X.2.2.2.2.2.1 X.2.2.2.2.2.2.1 X.2.2.2.2.2.2.2.1 H locs cells slots X.2.2.2.2.2.2.2.2 (F0 X.2.2.2.1 pc ls (st.map (zmv G))) from h9 T hT Xs
  obtain ⟨C, T, N, ty, f1, f2, f3, f4, f5, f6, f7, f8⟩ := f
  have hts := hX.2.2.2.2.1
  have hKn := hX.2.2.2.2.2.1.1.1 c _ f1
  subst f7
  refine W.newcK hX.1 hX.2.1 hX.2.2.2.1 (hts _ f4) (hts _ f5) (hts _ f6) rfl d hf.1 hf.2 hKn.2.1 hs fun H1 kC hkC e1 z1 o1 => ?_
  have o1' : ∀ q : Nat, q < H.size → H1[q]? = H[q]? := fun q hq => o1 q (by omega)
  refine kk H1 locs (zRep_app hR hs hw9 (by rw [z1, hs]) o1' ?_) (zS_app hS (by omega) o1') ls hl
  rw [zc0 hz]
  refine ⟨_, f1, (u_born ty hts f3 hKn hkC e1 f2).to fun j hj => ?_⟩
  rw [f8 j hj]
  have e : (zfk c)[j]? = some ((zfk c).getD j 0) := by
    rw [List.getElem?_eq_getElem hj, List.getD_eq_getElem?_getD, List.getElem?_eq_getElem hj]
    rfl
  show _ = (zfs G w n c).getD j .null
  have e2 : (zfs G w n c).getD j .null = zdV ((zfk c).getD j 0) := by
    rw [List.getD_eq_getElem?_getD (l := zfs G w n c), zfs_at e, zfv_nil hw]
    rfl
  rw [e2]
theorem zl_newa1 (hX : zH G X M) {at0 : ArrayType} {t N : Nat} {x : Int32} (d : decode M.2.1 pc = .ok (.newarray at0, 2)) (ha : Cond.arrayClass (newarray.typeOf at0) ∈ zTB) (ht : (zty G.2.2.1)[t]? = some (G.2.2.1 t, newarray.typeOf at0)) (hd : defaultValue (newarray.typeOf at0) = .int 0) (hx : ¬ x < 0) (hN : x.toNatClampNeg = N) (hb : N * componentBytes (newarray.typeOf at0) ≤ 536870912) (hs0 : X.2.2.1.heap.size = zB G) (hc0 : cells = n) (hn0 : 0 < n) (hw9 : n + 1 ≤ zWd G) (hz : zsh n = (1, t, N)) (hw : zNil w n) (hf : cells + 1 ≤ M.2.2.2.2.2.2.1 ∧ slots + N ≤ M.2.2.2.2.2.2.2)
    (kk : zk G X M (n + 1) (cells + 1) (slots + N) (pc + 2) lo (.ref n :: st) w) : zk G X M n cells slots pc lo (.int x :: st) w := by
  intro H locs hR hS ls hl T hT Xs
  have hs := zpin hR hs0 hc0 hn0 hT Xs
  suffices h9 : W X.1 G.1 X.2.1 (zrm M) X.2.2.1 X.2.2.2.1 X.2.2.2.2.1 X.2.2.2.2.2.1 X.2.2.2.2.2.2.1 X.2.2.2.2.2.2.2.1 H locs cells slots X.2.2.2.2.2.2.2.2 (F0 X.2.2.2.1 pc ls ((.int x :: st).map (zmv G))) from h9 T hT Xs
  refine va_newaK hX.1 hX.2.1 (hX.2.2.2.2.1 _ ha) rfl d rfl hx hN hb hf.1 hf.2 hs fun H1 cA e1 z1 o1 hAr hNm => ?_
  have hcA : cA = G.2.2.1 t := by
    have h := (hX.2.2.2.2.2.1.1.2 t _ ht).2
    have h' : X.2.2.1.vm.findClass ("[" ++ (newarray.typeOf at0).toString) = some (G.2.2.1 t) := by cases at0 <;> exact h
    exact Option.some.inj (hNm.symm.trans h')
  subst hcA
  have o1' : ∀ q : Nat, q < H.size → H1[q]? = H[q]? := fun q hq => o1 q (by omega)
  refine kk H1 locs (zRep_app hR hs hw9 (by rw [z1, hs]) o1' ?_) (zS_app hS (by omega) o1') ls hl
  rw [zc1 hz]
  show H1[zB G + n]? = some (vp_cell _ _)
  rw [vp_cell_i, e1, hd]
  congr 2
  funext j
  rw [hw.1 j]
theorem zk_mmaxn (hX : zH G X M) {idx : Nat} {x y : Int32} (d : decode M.2.1 pc = .ok (.invokestatic idx, 3)) (h1 : Cond.methodLink M.1.cls idx Lib.Math.max.name ∈ zTB) (hr : Nat.ble 1 M.2.2.2.2.1 = true ∧ Nat.ble ((st.map fun v => v.category).sum + 13) M.2.2.2.2.2.1 = true) (hf : cells ≤ M.2.2.2.2.2.2.1 ∧ slots ≤ M.2.2.2.2.2.2.2) (kk : zk G X M n cells slots (pc + 3) lo (.int (if x < y then y else x) :: st) w) : zk G X M n cells slots pc lo (.int y :: .int x :: st) w :=
  fun H locs hR hS ls hl => va_mmax hX.1 hX.2.1 (hX.2.2.1.trans hl.1.symm) hX.2.2.2.1 (hX.2.2.2.2.1 _ h1) (hX.2.2.2.2.1 _ smJ9_max_7cf53) (hX.2.2.2.2.1 _ maI) (hX.2.2.2.2.1 _ cdJ9_max) (Nat.le_of_ble_eq_true hr.1) (by rw [zcat]; exact Nat.le_of_ble_eq_true hr.2) hf.1 hf.2 d (kk H locs hR hS ls hl)
end ZMK
