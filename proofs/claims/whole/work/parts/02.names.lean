/-! ===== BEGIN words of one list among another's, by their places ===== -/
theorem goodIn_r {big : List Cond} (ws : List Cond) (ps : List Nat) (hp : ws = ps.filterMap (fun i => big[i]?)) (h : ws.all goodWord = true) : GoodIn big ws := by
  intro w hw
  have h1 := List.all_eq_true.mp h w hw
  rw [hp] at hw
  obtain ⟨i, -, hi⟩ := List.mem_filterMap.mp hw
  have hm : w ∈ big := by first | exact List.mem_of_getElem? hi | exact List.getElem?_mem hi
  exact ⟨hm, good_of_word h1⟩
theorem goodIn_app {big a b : List Cond} (ha : GoodIn big a) (hb : GoodIn big b) : GoodIn big (a ++ b) := fun w h => (List.mem_append.mp h).elim (ha w) (hb w)
theorem goodIn_ca {big a b : List Cond} {c : Cond} (ha : GoodIn big (c :: a)) (hb : GoodIn big b) : GoodIn big (c :: (a ++ b)) := fun w h => (List.mem_cons.mp h).elim (fun e => ha w (List.mem_cons.mpr (Or.inl e))) (fun h => (List.mem_append.mp h).elim (fun h => ha w (List.mem_cons.mpr (Or.inr h))) (hb w))
theorem goodIn_sub {big ws : List Cond} (hm : ∀ w ∈ ws, w ∈ big) (h : ws.all goodWord = true) : GoodIn big ws := fun w hw => ⟨hm w hw, good_of_word (List.all_eq_true.mp h w hw)⟩
/-! ===== END ===== -/

/-! ===== BEGIN new T[n][m]: the outer array a place, the inner ones among the pooled ===== -/
/-- f, but v at every address of l -/
def vr_up {α : Type} (f : Nat → α) (l : List Nat) (v : α) : Nat → α := fun a => if a ∈ l then v else f a
theorem vr_up_in {α : Type} {f : Nat → α} {l : List Nat} {v : α} {a : Nat} (h : a ∈ l) : vr_up f l v a = v := if_pos h
theorem vr_up_ne {α : Type} {f : Nat → α} {l : List Nat} {v : α} {a : Nat} (h : a ∉ l) : vr_up f l v a = f a := if_neg h
theorem vr_rows {L l : List Nat} {f : Nat → va_E} {e : va_E} (h : ∀ a, a ∈ l → a ∉ L) : va_pl L f ++ l.map (fun a => (a, e)) = va_pl (L ++ l) (vr_up f l e) := by
  unfold va_pl
  rw [List.map_append]
  congr 1
  · apply List.map_congr_left
    intro a ha
    rw [vr_up_ne (fun q => h a q ha)]
  · apply List.map_congr_left
    intro a ha
    rw [vr_up_in ha]
theorem vr_lay {X rows : va_W} {x : Nat × va_E} {pl : va_W} {D : va_G} {cl : List vw_C} {H : Heap} (hP : va_P D cl (((X ++ pl) ++ [x]) ++ rows) H) : va_P D cl ((X ++ [x]) ++ (pl ++ rows)) H := by
  rw [List.append_assoc (X ++ pl)] at hP
  have h := va_P.swap hP
  rw [← List.append_assoc X] at h
  have h2 := va_P.swap h
  rw [List.append_assoc (X ++ [x])] at h2
  exact h2
theorem vr_layD {X rows : va_W} {x : Nat × va_E} {pl : va_W} {A : Nat → Prop} (hD : va_D A (((X ++ pl) ++ [x]) ++ rows)) : va_D A ((X ++ [x]) ++ (pl ++ rows)) := by
  rw [List.append_assoc (X ++ pl)] at hD
  have h := va_D.swap hD
  rw [← List.append_assoc X] at h
  have h2 := va_D.swap h
  rw [List.append_assoc (X ++ [x])] at h2
  exact h2
theorem vr_outer (c : ClassId) (N h0 : Nat) : ∀ i : Nat, Jvm.Free.Multi.outerC c N h0 i = arrV c N (fun j => va_rf (if j < i then some (h0 + 1 + j) else none))
  | 0 => by
    show ({ cls := c, slots := Array.replicate N .null, vm := .none } : Cell) = _
    rw [arrV_new]
    refine congrArg (arrV c N) (funext fun j => ?_)
    simp [va_rf]
  | i + 1 => by
    show (Jvm.Free.Multi.outerC c N h0 i).setSlot i (.ref (h0 + 1 + i)) = _
    rw [vr_outer c N h0 i, arrV_store]
    refine congrArg (arrV c N) (funext fun j => ?_)
    by_cases e : j = i
    · subst e
      simp [updV, va_rf]
    · by_cases h : j < i
      · simp [updV, e, h, Nat.lt_succ_of_lt h]
      · simp [updV, e, h, show ¬ j < i + 1 by omega]
def va_AOA (ty : FieldType) (U : State) : Prop := (Cond.arrayOver (.array ty)).before #[] U = true
theorem va_AOA.use {ty : FieldType} {A : Array Value} {U : State} (h : va_AOA ty U) : (Cond.arrayOver (.array ty)).before A U = true := h
section VGM
variable {p : Program} {l : Launch} {e : Env} {R : Room} {s : State} {m : MethodId} {args : Array Value} {below : List Frame} {meth : Method} {c : Code} {H : Heap} {locs : List Loc} {cells slots : Nat} {Q : State → Prop}
variable {cc : ByteArray} {pc : Nat} {ls : Array Slot} {rest : List Value} {D : va_G} {cl : List vw_C} {A : Nat → Prop} {a : Nat} {tys : List (ClassId × FieldType)} {ws : va_W} {H0 : Heap}
theorem va_mna {X : va_W} {L : List Nat} {f : Nat → va_E} {cc : ByteArray} (hexec : p.tables.exec = Jvm.exec) (hb : c.code = cc) {own : String} {index : Nat} {ty : FieldType} {cy : ClassId} (hown : s.vm.findClass own = some m.cls) (hclink : (Cond.classLink own index ("[" ++ (FieldType.array ty).toString)).before args s = true) (hover : va_AOA ty s) (harr : (Cond.arrayClass ty).before args s = true) (hcy : s.vm.findClass (FieldType.array ty).toString = some cy)
    (hK : va_K D cl tys s) (hP : va_P D cl (X ++ va_pl L f) H) (hD : va_D A (X ++ va_pl L f)) (hS : va_S A H0 H locs) (hA : ∀ q, H0.size ≤ q → A q) {n k : Int32} {N' K' : Nat} {z : vp_A} (hn : ¬ n < 0) (hk : ¬ k < 0) (hN : n.toNatClampNeg = N') (hM : k.toNatClampNeg = K')
    (hb1 : N' * 4 ≤ 536870912) (hb2 : K' * componentBytes ty ≤ 536870912) (hb3 : K' ≤ 536870912) (hdf : fits ty (defaultValue ty) = true) (hdd : (defaultValue ty).isDefault = true) (hcells : cells + (1 + N') ≤ R.cells) (hslots : slots + (N' + N' * K') ≤ R.slots) (hz : ∀ c : ClassId, Jvm.Free.Multi.innerC c K' (defaultValue ty) = vp_cell c z) (hdg : decode cc pc = .ok (.multianewarray index 2, 4))
    (kk : ∀ (q : Nat) (r : Nat → Nat) (cA : ClassId) (H1 : Heap), (∀ i j : Nat, i < N' → j < N' → r i = r j → i = j) → (∀ i : Nat, i < N' → r i ∉ L) → va_K D cl (tys ++ [(cA, .array ty)]) s →
      va_P D cl ((X ++ [(q, .inl (cA, N', .inr (.inr (.inr (.inr (fun i => if i < N' then some (r i) else none))))))]) ++ va_pl (L ++ (List.range N').map r) (vr_up f ((List.range N').map r) (.inl (cy, z)))) H1 → va_D A ((X ++ [(q, .inl (cA, N', .inr (.inr (.inr (.inr (fun i => if i < N' then some (r i) else none))))))]) ++ va_pl (L ++ (List.range N').map r) (vr_up f ((List.range N').map r) (.inl (cy, z)))) → va_S A H0 H1 locs →
      W p l e R s m args below meth c H1 locs (cells + 1 + N') (slots + N' + N' * K') Q (F0 m (pc + 4) ls (.ref q :: rest))) : W p l e R s m args below meth c H locs cells slots Q (F0 m pc ls (.int k :: .int n :: rest)) := by
  subst hN
  subst hM
  intro T hT Xs
  obtain ⟨vm₁, cA, comp, -, fA, fC, hO, -, X', step⟩ := Xs.multianewarray2F hexec hown hclink (va_AOA.use hover) harr (g := F0 m pc ls (.int k :: .int n :: rest)) rfl (by rw [hb]; exact hdg) rfl hn hk hb1 hb2 hb3 hdf hdd hcells hslots
  have ec : some cy = some comp := hcy.symm.trans fC
  cases ec
  generalize hF : Jvm.Free.Multi.fill (T.setVm vm₁) cA cy n.toNatClampNeg k.toNatClampNeg (defaultValue ty) n.toNatClampNeg = F at X' step
  have hTh : (T.setVm vm₁).heap = H := hT
  obtain ⟨f1, f2, -, -⟩ := Jvm.Free.Multi.fill_facts (T.setVm vm₁) cA cy n.toNatClampNeg k.toNatClampNeg (defaultValue ty) n.toNatClampNeg
  rw [hF, hTh] at f1 f2
  have hold : ∀ x : Nat, x < H.size → F.heap[x]? = H[x]? := fun x hx => by
    have := Jvm.Free.Multi.fill_old (T.setVm vm₁) cA cy n.toNatClampNeg k.toNatClampNeg (defaultValue ty) (a := x) (by rw [hTh]; exact hx) n.toNatClampNeg
    rw [hF, hTh] at this
    exact this
  have hrow : ∀ j : Nat, j < n.toNatClampNeg → F.heap[H.size + 1 + j]? = some (vp_cell cy z) := fun j hj => by
    have := Jvm.Free.Multi.fill_inner (T.setVm vm₁) cA cy n.toNatClampNeg k.toNatClampNeg (defaultValue ty) n.toNatClampNeg j hj
    rw [hF, hTh, hz] at this
    exact this
  have hout : Jvm.Free.Multi.outerC cA n.toNatClampNeg H.size n.toNatClampNeg = vp_cell cA (n.toNatClampNeg, .inr (.inr (.inr (.inr (fun i => if i < n.toNatClampNeg then some (H.size + 1 + i) else none))))) := by
    rw [vp_cell_q]
    exact vr_outer cA n.toNatClampNeg H.size n.toNatClampNeg
  rw [hout] at f2
  have hlt : ∀ a, a ∈ L → a < H.size := fun a ha => by
    obtain ⟨k9, hk9⟩ := va_pl_get (X := X) (f := f) ha
    exact (hP k9 _ hk9).lt
  have hnl : ∀ i : Nat, i < n.toNatClampNeg → H.size + 1 + i ∉ L := fun i _ h => by
    have := hlt _ h
    omega
  have hnm : ∀ a, a ∈ (List.range n.toNatClampNeg).map (fun i => H.size + 1 + i) → a ∉ L := fun a ha h => by
    obtain ⟨i, -, rfl⟩ := List.mem_map.mp ha
    have := hlt _ h
    omega
  have hP0 : va_P D cl (X ++ va_pl L f) F.heap := hP.kept (fun k9 x hx => hold x.1 ((hP k9 x hx).lt))
  have hP1 : va_P D cl ((X ++ va_pl L f) ++ [(H.size, .inl (cA, n.toNatClampNeg, .inr (.inr (.inr (.inr (fun i => if i < n.toNatClampNeg then some (H.size + 1 + i) else none))))))]) F.heap := hP0.app (fun k9 x hx => by
    have h0 : k9 < 1 := (List.getElem?_eq_some_iff.mp hx).1
    rw [show k9 = 0 by omega] at hx
    cases hx
    exact f2)
  have hP2 : va_P D cl (((X ++ va_pl L f) ++ [(H.size, .inl (cA, n.toNatClampNeg, .inr (.inr (.inr (.inr (fun i => if i < n.toNatClampNeg then some (H.size + 1 + i) else none))))))]) ++ ((List.range n.toNatClampNeg).map (fun i => H.size + 1 + i)).map (fun a => (a, .inl (cy, z)))) F.heap := hP1.app (fun k9 x hx => by
    obtain ⟨a, ha, rfl⟩ := List.mem_map.mp (List.mem_of_getElem? hx)
    obtain ⟨i, hi, rfl⟩ := List.mem_map.mp ha
    exact hrow i (List.mem_range.mp hi))
  have hD2 : va_D A (((X ++ va_pl L f) ++ [(H.size, .inl (cA, n.toNatClampNeg, .inr (.inr (.inr (.inr (fun i => if i < n.toNatClampNeg then some (H.size + 1 + i) else none))))))]) ++ ((List.range n.toNatClampNeg).map (fun i => H.size + 1 + i)).map (fun a => (a, .inl (cy, z)))) := by
    have hD1 := hD.push (e := .inl (cA, n.toNatClampNeg, .inr (.inr (.inr (.inr (fun i => if i < n.toNatClampNeg then some (H.size + 1 + i) else none)))))) hP rfl (hA _ hS.1)
    generalize hW1 : (X ++ va_pl L f) ++ [(H.size, .inl (cA, n.toNatClampNeg, .inr (.inr (.inr (.inr (fun i => if i < n.toNatClampNeg then some (H.size + 1 + i) else none))))))] = W1 at hD1 hP1 ⊢
    have hle : ∀ (k9 : Nat) (x : Nat × va_E), W1[k9]? = some x → x.1 ≤ H.size := fun k9 x hx => by
      rw [← hW1] at hx
      by_cases hl : k9 < (X ++ va_pl L f).length
      · rw [List.getElem?_append_left hl] at hx
        exact Nat.le_of_lt ((hP k9 x hx).lt)
      · rw [List.getElem?_append_right (by omega)] at hx
        have h0 : k9 - (X ++ va_pl L f).length < 1 := (List.getElem?_eq_some_iff.mp hx).1
        rw [show k9 - (X ++ va_pl L f).length = 0 by omega] at hx
        cases hx
        exact Nat.le_refl _
    have hr : ∀ (k9 : Nat) (x : Nat × va_E), (((List.range n.toNatClampNeg).map (fun i => H.size + 1 + i)).map (fun a => ((a, .inl (cy, z)) : Nat × va_E)))[k9]? = some x → x.1 = H.size + 1 + k9 := fun k9 x hx => by
      rw [List.getElem?_map, List.getElem?_map] at hx
      by_cases h9 : k9 < n.toNatClampNeg
      · rw [List.getElem?_range h9] at hx
        cases hx
        rfl
      · have hn0 : (List.range n.toNatClampNeg)[k9]? = none := List.getElem?_eq_none (by rw [List.length_range]; omega)
        rw [hn0] at hx
        cases hx
    refine ⟨fun i j x y hi hj hxy => ?_, fun k9 x hx => ?_⟩
    · by_cases h1 : i < W1.length <;> by_cases h2 : j < W1.length
      · rw [List.getElem?_append_left h1] at hi
        rw [List.getElem?_append_left h2] at hj
        exact hD1.1 i j x y hi hj hxy
      · rw [List.getElem?_append_left h1] at hi
        rw [List.getElem?_append_right (by omega)] at hj
        have := hle _ _ hi
        have := hr _ _ hj
        omega
      · rw [List.getElem?_append_right (by omega)] at hi
        rw [List.getElem?_append_left h2] at hj
        have := hle _ _ hj
        have := hr _ _ hi
        omega
      · rw [List.getElem?_append_right (by omega)] at hi hj
        have := hr _ _ hi
        have := hr _ _ hj
        omega
    · by_cases h1 : k9 < W1.length
      · rw [List.getElem?_append_left h1] at hx
        exact hD1.2 k9 x hx
      · rw [List.getElem?_append_right (by omega)] at hx
        have := hr _ _ hx
        exact hA _ (by have := hS.1; omega)
  have hAr : ArrOfT s cA (.array ty) := fun N9 z9 => by
    obtain ⟨-, k9, hk9, cm9, hkk9⟩ := (hO 0 0 0).1
    exact ⟨(fun q hq => by cases hq), k9, hk9, cm9, hkk9⟩
  have hK2 : va_K D cl (tys ++ [(cA, .array ty)]) s := ⟨hK.1, fun k9 x hx => by
    by_cases hl : k9 < tys.length
    · rw [List.getElem?_append_left hl] at hx
      exact hK.2 k9 x hx
    · rw [List.getElem?_append_right (by omega)] at hx
      have h0 : k9 - tys.length < 1 := (List.getElem?_eq_some_iff.mp hx).1
      rw [show k9 - tys.length = 0 by omega] at hx
      cases hx
      exact ⟨hAr, fA⟩⟩
  obtain ⟨t, a1, b1⟩ := kk H.size (fun i => H.size + 1 + i) cA F.heap (fun i j _ _ h => by have h9 : H.size + 1 + i = H.size + 1 + j := h; omega) hnl hK2 (by rw [← vr_rows hnm]; exact vr_lay hP2) (by rw [← vr_rows hnm]; exact vr_layD hD2) ⟨by rw [f1]; have := hS.1; omega, fun x h1 h2 => (hold x (Nat.lt_of_lt_of_le h1 hS.1)).trans (hS.2.1 x h1 h2), hS.2.2⟩ F rfl X'
  refine ⟨t, step t ?_, b1⟩
  have e : T.heap.size = H.size := by rw [hT]
  rw [e]
  exact a1
end VGM
/-! ===== END ===== -/

/-! ===== BEGIN printed: names, fields, word lists, decode rows ===== -/
def RX0 : String := "HandBeasts$Beast"
def TX0 : u_T := fun k => match k with
  | 0 => ("HandBeasts$Beast", "must", "LHandBeasts$Cells;", true)
  | 1 => ("HandBeasts$Beast", "may", "LHandBeasts$Cells;", true)
  | 2 => ("HandBeasts$Beast", "moves", "I", false)
  | _ => ("HandBeasts$Beast", "there", "Z", false)
def tyX0 : Nat → FieldType := fun k => match k with
  | 0 => .object "HandBeasts$Cells"
  | 1 => .object "HandBeasts$Cells"
  | 2 => .int
  | _ => .boolean
abbrev wsX00 : List Cond := u_ws RX0 TX0 4
theorem nmX0 : ∀ a, a < 4 → ∀ b, b < 4 → a ≠ b → (TX0 a).2.1 ≠ (TX0 b).2.1 := by decide +kernel
theorem tyX0_ok : ∀ k, k < 4 → parseFieldDescriptor (TX0 k).2.2.1 = some (tyX0 k) := by decide +kernel
abbrev cX0_init : ByteArray := prog_2_method_1_code
def yX0_init : MethodName := ⟨RX0, "<init>", "()V"⟩
abbrev cX0_missed : ByteArray := prog_2_method_2_code
def yX0_missed : MethodName := ⟨RX0, "missed", "(JJ)I"⟩
abbrev cX0_over : ByteArray := prog_2_method_3_code
def yX0_over : MethodName := ⟨RX0, "over", "(JJ)I"⟩
abbrev cX0_offOf : ByteArray := prog_2_method_4_code
def yX0_offOf : MethodName := ⟨RX0, "offOf", "(JJ)I"⟩
abbrev cX0_digestOn : ByteArray := prog_2_method_5_code
def yX0_digestOn : MethodName := ⟨RX0, "digestOn", "(J)J"⟩
def RX1 : String := "HandBeasts$Cells"
def TX1 : u_T := fun k => match k with
  | 0 => ("HandBeasts$Cells", "top", "J", false)
  | _ => ("HandBeasts$Cells", "low", "J", false)
def tyX1 : Nat → FieldType := fun k => match k with
  | 0 => .long
  | _ => .long
abbrev wsX10 : List Cond := u_ws RX1 TX1 2
theorem nmX1 : ∀ a, a < 2 → ∀ b, b < 2 → a ≠ b → (TX1 a).2.1 ≠ (TX1 b).2.1 := by decide +kernel
theorem tyX1_ok : ∀ k, k < 2 → parseFieldDescriptor (TX1 k).2.2.1 = some (tyX1 k) := by decide +kernel
abbrev cX1_init : ByteArray := prog_3_method_1_code
def yX1_init : MethodName := ⟨RX1, "<init>", "()V"⟩
abbrev cX1_clear : ByteArray := prog_3_method_2_code
def yX1_clear : MethodName := ⟨RX1, "clear", "()V"⟩
abbrev cX1_become : ByteArray := prog_3_method_3_code
def yX1_become : MethodName := ⟨RX1, "become", "(LHandBeasts$Cells;)V"⟩
abbrev cX1_join : ByteArray := prog_3_method_4_code
def yX1_join : MethodName := ⟨RX1, "join", "(JJ)V"⟩
abbrev cX1_leave : ByteArray := prog_3_method_5_code
def yX1_leave : MethodName := ⟨RX1, "leave", "(LHandBeasts$Cells;)V"⟩
abbrev cX1_has : ByteArray := prog_3_method_6_code
def yX1_has : MethodName := ⟨RX1, "has", "(LHandBeasts$Cells;)Z"⟩
abbrev cX1_is : ByteArray := prog_3_method_7_code
def yX1_is : MethodName := ⟨RX1, "is", "(JJ)Z"⟩
abbrev cX1_number : ByteArray := prog_3_method_8_code
def yX1_number : MethodName := ⟨RX1, "number", "()I"⟩
abbrev cX1_isCell : ByteArray := prog_3_method_9_code
def yX1_isCell : MethodName := ⟨RX1, "isCell", "(II)Z"⟩
abbrev cX1_addNew : ByteArray := prog_3_method_10_code
def yX1_addNew : MethodName := ⟨RX1, "addNew", "(II)Z"⟩
abbrev cX1_line : ByteArray := prog_3_method_11_code
def yX1_line : MethodName := ⟨RX1, "line", "(I)I"⟩
abbrev cX1_addLine : ByteArray := prog_3_method_12_code
def yX1_addLine : MethodName := ⟨RX1, "addLine", "(II)V"⟩
abbrev cX1_digestOn : ByteArray := prog_3_method_13_code
def yX1_digestOn : MethodName := ⟨RX1, "digestOn", "(J)J"⟩
def RX2 : String := "HandBeasts$Hands"
def TX2 : u_T := fun k => match k with
  | 0 => ("HandBeasts$Hands", "wrists", "I", false)
  | 1 => ("HandBeasts$Hands", "fingers", "I", false)
  | 2 => ("HandBeasts$Hands", "joints", "I", false)
  | 3 => ("HandBeasts$Hands", "wrist", "[I", true)
  | 4 => ("HandBeasts$Hands", "owner", "[I", true)
  | 5 => ("HandBeasts$Hands", "side", "[I", true)
  | 6 => ("HandBeasts$Hands", "first", "[I", true)
  | 7 => ("HandBeasts$Hands", "length", "[I", true)
  | 8 => ("HandBeasts$Hands", "holder", "[I", true)
  | 9 => ("HandBeasts$Hands", "behind", "[I", true)
  | _ => ("HandBeasts$Hands", "ahead", "[I", true)
def tyX2 : Nat → FieldType := fun k => match k with
  | 0 => .int
  | 1 => .int
  | 2 => .int
  | 3 => .array .int
  | 4 => .array .int
  | 5 => .array .int
  | 6 => .array .int
  | 7 => .array .int
  | 8 => .array .int
  | 9 => .array .int
  | _ => .array .int
abbrev wsX20 : List Cond := u_ws RX2 TX2 11
theorem nmX2 : ∀ a, a < 11 → ∀ b, b < 11 → a ≠ b → (TX2 a).2.1 ≠ (TX2 b).2.1 := by decide +kernel
theorem tyX2_ok : ∀ k, k < 11 → parseFieldDescriptor (TX2 k).2.2.1 = some (tyX2 k) := by decide +kernel
abbrev cX2_init : ByteArray := prog_4_method_1_code
def yX2_init : MethodName := ⟨RX2, "<init>", "()V"⟩
abbrev cX2_clear : ByteArray := prog_4_method_2_code
def yX2_clear : MethodName := ⟨RX2, "clear", "()V"⟩
abbrev cX2_addHand : ByteArray := prog_4_method_3_code
def yX2_addHand : MethodName := ⟨RX2, "addHand", "(I)Z"⟩
abbrev cX2_addFinger : ByteArray := prog_4_method_4_code
def yX2_addFinger : MethodName := ⟨RX2, "addFinger", "(I)Z"⟩
abbrev cX2_addJoint : ByteArray := prog_4_method_5_code
def yX2_addJoint : MethodName := ⟨RX2, "addJoint", "(II)Z"⟩
abbrev cX2_span : ByteArray := prog_4_method_6_code
def yX2_span : MethodName := ⟨RX2, "span", "(I)I"⟩
abbrev cX2_canTurn : ByteArray := prog_4_method_7_code
def yX2_canTurn : MethodName := ⟨RX2, "canTurn", "(LHandBeasts$Row;)Z"⟩
abbrev cX2_turnFinger : ByteArray := prog_4_method_8_code
def yX2_turnFinger : MethodName := ⟨RX2, "turnFinger", "(II[I)I"⟩
abbrev cX2_wristCells : ByteArray := prog_4_method_9_code
def yX2_wristCells : MethodName := ⟨RX2, "wristCells", "(ILHandBeasts$Cells;)I"⟩
abbrev cX2_fingerCells : ByteArray := prog_4_method_10_code
def yX2_fingerCells : MethodName := ⟨RX2, "fingerCells", "(I[ILHandBeasts$Cells;)I"⟩
abbrev cX2_allCells : ByteArray := prog_4_method_11_code
def yX2_allCells : MethodName := ⟨RX2, "allCells", "([ILHandBeasts$Cells;)I"⟩
abbrev cX2_digestOn : ByteArray := prog_4_method_12_code
def yX2_digestOn : MethodName := ⟨RX2, "digestOn", "(J)J"⟩
def RX3 : String := "HandBeasts$Lamp"
def TX3 : u_T := fun k => match k with
  | 0 => ("HandBeasts$Lamp", "z", "I", false)
  | 1 => ("HandBeasts$Lamp", "dx", "I", false)
  | _ => ("HandBeasts$Lamp", "dy", "I", false)
def tyX3 : Nat → FieldType := fun k => match k with
  | 0 => .int
  | 1 => .int
  | _ => .int
abbrev wsX30 : List Cond := u_ws RX3 TX3 3
theorem nmX3 : ∀ a, a < 3 → ∀ b, b < 3 → a ≠ b → (TX3 a).2.1 ≠ (TX3 b).2.1 := by decide +kernel
theorem tyX3_ok : ∀ k, k < 3 → parseFieldDescriptor (TX3 k).2.2.1 = some (tyX3 k) := by decide +kernel
abbrev cX3_init : ByteArray := prog_5_method_1_code
def yX3_init : MethodName := ⟨RX3, "<init>", "()V"⟩
abbrev cX3_become : ByteArray := prog_5_method_2_code
def yX3_become : MethodName := ⟨RX3, "become", "(III)V"⟩
abbrev cX3_becomeNumber : ByteArray := prog_5_method_3_code
def yX3_becomeNumber : MethodName := ⟨RX3, "becomeNumber", "(I)V"⟩
abbrev cX3_code : ByteArray := prog_5_method_4_code
def yX3_code : MethodName := ⟨RX3, "code", "()I"⟩
abbrev cX3_throwCells : ByteArray := prog_5_method_5_code
def yX3_throwCells : MethodName := ⟨RX3, "throwCells", "(JJLHandBeasts$Cells;)V"⟩
abbrev cX3_throwHalf : ByteArray := prog_5_method_6_code
def yX3_throwHalf : MethodName := ⟨RX3, "throwHalf", "(JILHandBeasts$Cells;)V"⟩
abbrev cX3_throwCell : ByteArray := prog_5_method_7_code
def yX3_throwCell : MethodName := ⟨RX3, "throwCell", "(IILHandBeasts$Cells;)V"⟩
def RX4 : String := "HandBeasts$Lookers"
def TX4 : u_T := fun k => match k with
  | 0 => ("HandBeasts$Lookers", "number", "I", false)
  | 1 => ("HandBeasts$Lookers", "weights", "[[I", true)
  | 2 => ("HandBeasts$Lookers", "calls", "I", false)
  | 3 => ("HandBeasts$Lookers", "caller", "[I", true)
  | 4 => ("HandBeasts$Lookers", "called", "[I", true)
  | 5 => ("HandBeasts$Lookers", "named", "[I", true)
  | 6 => ("HandBeasts$Lookers", "missed", "[I", true)
  | 7 => ("HandBeasts$Lookers", "over", "[I", true)
  | 8 => ("HandBeasts$Lookers", "unlike", "[I", true)
  | 9 => ("HandBeasts$Lookers", "least", "I", false)
  | _ => ("HandBeasts$Lookers", "hits", "[I", true)
def tyX4 : Nat → FieldType := fun k => match k with
  | 0 => .int
  | 1 => .array (.array .int)
  | 2 => .int
  | 3 => .array .int
  | 4 => .array .int
  | 5 => .array .int
  | 6 => .array .int
  | 7 => .array .int
  | 8 => .array .int
  | 9 => .int
  | _ => .array .int
abbrev wsX40 : List Cond := u_ws RX4 TX4 11
theorem nmX4 : ∀ a, a < 11 → ∀ b, b < 11 → a ≠ b → (TX4 a).2.1 ≠ (TX4 b).2.1 := by decide +kernel
theorem tyX4_ok : ∀ k, k < 11 → parseFieldDescriptor (TX4 k).2.2.1 = some (tyX4 k) := by decide +kernel
abbrev cX4_init : ByteArray := prog_6_method_1_code
def yX4_init : MethodName := ⟨RX4, "<init>", "()V"⟩
abbrev cX4_add : ByteArray := prog_6_method_2_code
def yX4_add : MethodName := ⟨RX4, "add", "(III)I"⟩
abbrev cX4_addCall : ByteArray := prog_6_method_3_code
def yX4_addCall : MethodName := ⟨RX4, "addCall", "(III)I"⟩
abbrev cX4_setCall : ByteArray := prog_6_method_4_code
def yX4_setCall : MethodName := ⟨RX4, "setCall", "(IIII)V"⟩
abbrev cX4_dropCalls : ByteArray := prog_6_method_5_code
def yX4_dropCalls : MethodName := ⟨RX4, "dropCalls", "(I)V"⟩
abbrev cX4_callsOf : ByteArray := prog_6_method_6_code
def yX4_callsOf : MethodName := ⟨RX4, "callsOf", "(II)I"⟩
abbrev cX4_measure : ByteArray := prog_6_method_7_code
def yX4_measure : MethodName := ⟨RX4, "measure", "([LHandBeasts$Beast;LHandBeasts$Cells;Z)V"⟩
abbrev cX4_guessBy : ByteArray := prog_6_method_8_code
def yX4_guessBy : MethodName := ⟨RX4, "guessBy", "([LHandBeasts$Beast;III)I"⟩
abbrev cX4_beginFit : ByteArray := prog_6_method_9_code
def yX4_beginFit : MethodName := ⟨RX4, "beginFit", "()V"⟩
abbrev cX4_tryFits : ByteArray := prog_6_method_10_code
def yX4_tryFits : MethodName := ⟨RX4, "tryFits", "([LHandBeasts$Beast;I)V"⟩
abbrev cX4_bestFit : ByteArray := prog_6_method_11_code
def yX4_bestFit : MethodName := ⟨RX4, "bestFit", "()I"⟩
abbrev cX4_fitCode : ByteArray := prog_6_method_12_code
def yX4_fitCode : MethodName := ⟨RX4, "fitCode", "(I)I"⟩
abbrev cX4_digestOn : ByteArray := prog_6_method_13_code
def yX4_digestOn : MethodName := ⟨RX4, "digestOn", "(J)J"⟩
def RX5 : String := "HandBeasts$Pose"
def TX5 : u_T := fun k => match k with
  | 0 => ("HandBeasts$Pose", "turns", "[I", true)
  | 1 => ("HandBeasts$Pose", "dark", "LHandBeasts$Cells;", true)
  | 2 => ("HandBeasts$Pose", "card", "LHandBeasts$Cells;", true)
  | 3 => ("HandBeasts$Pose", "kind", "I", false)
  | 4 => ("HandBeasts$Pose", "mover", "I", false)
  | 5 => ("HandBeasts$Pose", "load", "I", false)
  | 6 => ("HandBeasts$Pose", "above", "I", false)
  | _ => ("HandBeasts$Pose", "wrong", "I", false)
def tyX5 : Nat → FieldType := fun k => match k with
  | 0 => .array .int
  | 1 => .object "HandBeasts$Cells"
  | 2 => .object "HandBeasts$Cells"
  | 3 => .int
  | 4 => .int
  | 5 => .int
  | 6 => .int
  | _ => .int
abbrev wsX50 : List Cond := u_ws RX5 TX5 8
theorem nmX5 : ∀ a, a < 8 → ∀ b, b < 8 → a ≠ b → (TX5 a).2.1 ≠ (TX5 b).2.1 := by decide +kernel
theorem tyX5_ok : ∀ k, k < 8 → parseFieldDescriptor (TX5 k).2.2.1 = some (tyX5 k) := by decide +kernel
abbrev cX5_init : ByteArray := prog_7_method_1_code
def yX5_init : MethodName := ⟨RX5, "<init>", "()V"⟩
abbrev cX5_begin : ByteArray := prog_7_method_2_code
def yX5_begin : MethodName := ⟨RX5, "begin", "(LHandBeasts$Row;I)V"⟩
abbrev cX5_judge : ByteArray := prog_7_method_3_code
def yX5_judge : MethodName := ⟨RX5, "judge", "(LHandBeasts$Hands;ILHandBeasts$Cells;)V"⟩
abbrev cX5_weigh : ByteArray := prog_7_method_4_code
def yX5_weigh : MethodName := ⟨RX5, "weigh", "()I"⟩
abbrev cX5_isHeld : ByteArray := prog_7_method_5_code
def yX5_isHeld : MethodName := ⟨RX5, "isHeld", "()Z"⟩
abbrev cX5_shadow : ByteArray := prog_7_method_6_code
def yX5_shadow : MethodName := ⟨RX5, "shadow", "(LHandBeasts$Lamp;LHandBeasts$Cells;)V"⟩
abbrev cX5_digestOn : ByteArray := prog_7_method_7_code
def yX5_digestOn : MethodName := ⟨RX5, "digestOn", "(JI)J"⟩
def RX6 : String := "HandBeasts$Reach"
def TX6 : u_T := fun k => match k with
  | 0 => ("HandBeasts$Reach", "spent", "Z", false)
  | 1 => ("HandBeasts$Reach", "size", "I", false)
  | 2 => ("HandBeasts$Reach", "step", "[I", true)
  | 3 => ("HandBeasts$Reach", "span", "[I", true)
  | 4 => ("HandBeasts$Reach", "load", "[B", true)
  | 5 => ("HandBeasts$Reach", "top", "[J", true)
  | 6 => ("HandBeasts$Reach", "low", "[J", true)
  | 7 => ("HandBeasts$Reach", "thrownTop", "[J", true)
  | 8 => ("HandBeasts$Reach", "thrownLow", "[J", true)
  | 9 => ("HandBeasts$Reach", "ownSize", "[I", true)
  | 10 => ("HandBeasts$Reach", "ownLoad", "[B", true)
  | 11 => ("HandBeasts$Reach", "ownTop", "[J", true)
  | 12 => ("HandBeasts$Reach", "ownLow", "[J", true)
  | 13 => ("HandBeasts$Reach", "ownThrownTop", "[J", true)
  | 14 => ("HandBeasts$Reach", "ownThrownLow", "[J", true)
  | 15 => ("HandBeasts$Reach", "turns", "[I", true)
  | _ => ("HandBeasts$Reach", "cells", "LHandBeasts$Cells;", true)
def tyX6 : Nat → FieldType := fun k => match k with
  | 0 => .boolean
  | 1 => .int
  | 2 => .array .int
  | 3 => .array .int
  | 4 => .array .byte
  | 5 => .array .long
  | 6 => .array .long
  | 7 => .array .long
  | 8 => .array .long
  | 9 => .array .int
  | 10 => .array .byte
  | 11 => .array .long
  | 12 => .array .long
  | 13 => .array .long
  | 14 => .array .long
  | 15 => .array .int
  | _ => .object "HandBeasts$Cells"
abbrev wsX60 : List Cond := u_ws RX6 TX6 17
theorem nmX6 : ∀ a, a < 17 → ∀ b, b < 17 → a ≠ b → (TX6 a).2.1 ≠ (TX6 b).2.1 := by decide +kernel
theorem tyX6_ok : ∀ k, k < 17 → parseFieldDescriptor (TX6 k).2.2.1 = some (tyX6 k) := by decide +kernel
abbrev cX6_init : ByteArray := prog_8_method_1_code
def yX6_init : MethodName := ⟨RX6, "<init>", "()V"⟩
abbrev cX6_learn : ByteArray := prog_8_method_2_code
def yX6_learn : MethodName := ⟨RX6, "learn", "(LHandBeasts$Hands;)V"⟩
abbrev cX6_learnFinger : ByteArray := prog_8_method_3_code
def yX6_learnFinger : MethodName := ⟨RX6, "learnFinger", "(LHandBeasts$Hands;I)V"⟩
abbrev cX6_combine : ByteArray := prog_8_method_4_code
def yX6_combine : MethodName := ⟨RX6, "combine", "(LHandBeasts$Hands;I)V"⟩
abbrev cX6_shade : ByteArray := prog_8_method_5_code
def yX6_shade : MethodName := ⟨RX6, "shade", "(LHandBeasts$Hands;LHandBeasts$Lamp;I)V"⟩
abbrev cX6_join : ByteArray := prog_8_method_6_code
def yX6_join : MethodName := ⟨RX6, "join", "([JI[JII)V"⟩
abbrev cX6_joinLoads : ByteArray := prog_8_method_7_code
def yX6_joinLoads : MethodName := ⟨RX6, "joinLoads", "(II)V"⟩
abbrev cX6_joinedLoad : ByteArray := prog_8_method_8_code
def yX6_joinedLoad : MethodName := ⟨RX6, "joinedLoad", "(BII)B"⟩
abbrev cX6_isBarred : ByteArray := prog_8_method_9_code
def yX6_isBarred : MethodName := ⟨RX6, "isBarred", "(I)Z"⟩
abbrev cX6_isHeld : ByteArray := prog_8_method_10_code
def yX6_isHeld : MethodName := ⟨RX6, "isHeld", "(II)Z"⟩
abbrev cX6_turnAt : ByteArray := prog_8_method_11_code
def yX6_turnAt : MethodName := ⟨RX6, "turnAt", "(LHandBeasts$Hands;II)I"⟩
abbrev cX6_placeOf : ByteArray := prog_8_method_12_code
def yX6_placeOf : MethodName := ⟨RX6, "placeOf", "(LHandBeasts$Hands;[I)I"⟩
abbrev cX6_offOf : ByteArray := prog_8_method_13_code
def yX6_offOf : MethodName := ⟨RX6, "offOf", "(LHandBeasts$Beast;I)I"⟩
abbrev cX6_nearestTurns : ByteArray := prog_8_method_14_code
def yX6_nearestTurns : MethodName := ⟨RX6, "nearestTurns", "(LHandBeasts$Hands;LHandBeasts$Beast;II)I"⟩
abbrev cX6_leastOff : ByteArray := prog_8_method_15_code
def yX6_leastOff : MethodName := ⟨RX6, "leastOff", "(LHandBeasts$Hands;LHandBeasts$Beast;II)I"⟩
abbrev cX6_joinDark : ByteArray := prog_8_method_16_code
def yX6_joinDark : MethodName := ⟨RX6, "joinDark", "(ILHandBeasts$Cells;)V"⟩
abbrev cX6_throwsJust : ByteArray := prog_8_method_17_code
def yX6_throwsJust : MethodName := ⟨RX6, "throwsJust", "(ILHandBeasts$Cells;I)Z"⟩
abbrev cX6_numberThrowing : ByteArray := prog_8_method_18_code
def yX6_numberThrowing : MethodName := ⟨RX6, "numberThrowing", "(LHandBeasts$Cells;I)I"⟩
abbrev cX6_alikeJoints : ByteArray := prog_8_method_19_code
def yX6_alikeJoints : MethodName := ⟨RX6, "alikeJoints", "(LHandBeasts$Hands;LHandBeasts$Cells;I)I"⟩
def RX7 : String := "HandBeasts$Reader"
def TX7 : u_T := fun k => match k with
  | 0 => ("HandBeasts$Reader", "from", "LHandBeasts$Row;", false)
  | 1 => ("HandBeasts$Reader", "into", "LHandBeasts$Hands;", false)
  | _ => ("HandBeasts$Reader", "place", "I", false)
def tyX7 : Nat → FieldType := fun k => match k with
  | 0 => .object "HandBeasts$Row"
  | 1 => .object "HandBeasts$Hands"
  | _ => .int
abbrev wsX70 : List Cond := u_ws RX7 TX7 3
theorem nmX7 : ∀ a, a < 3 → ∀ b, b < 3 → a ≠ b → (TX7 a).2.1 ≠ (TX7 b).2.1 := by decide +kernel
theorem tyX7_ok : ∀ k, k < 3 → parseFieldDescriptor (TX7 k).2.2.1 = some (tyX7 k) := by decide +kernel
abbrev cX7_init : ByteArray := prog_9_method_1_code
def yX7_init : MethodName := ⟨RX7, "<init>", "()V"⟩
abbrev cX7_read : ByteArray := prog_9_method_2_code
def yX7_read : MethodName := ⟨RX7, "read", "(LHandBeasts$Row;LHandBeasts$Hands;)I"⟩
abbrev cX7_readOne : ByteArray := prog_9_method_3_code
def yX7_readOne : MethodName := ⟨RX7, "readOne", "()Z"⟩
abbrev cX7_readHand : ByteArray := prog_9_method_4_code
def yX7_readHand : MethodName := ⟨RX7, "readHand", "()Z"⟩
abbrev cX7_readFinger : ByteArray := prog_9_method_5_code
def yX7_readFinger : MethodName := ⟨RX7, "readFinger", "()Z"⟩
abbrev cX7_readJoint : ByteArray := prog_9_method_6_code
def yX7_readJoint : MethodName := ⟨RX7, "readJoint", "()Z"⟩
abbrev cX7_isTurn : ByteArray := prog_9_method_7_code
def yX7_isTurn : MethodName := ⟨RX7, "isTurn", "(I)Z"⟩
abbrev cX7_figure : ByteArray := prog_9_method_8_code
def yX7_figure : MethodName := ⟨RX7, "figure", "()I"⟩
def RX8 : String := "HandBeasts$Row"
def TX8 : u_T := fun k => match k with
  | 0 => ("HandBeasts$Row", "size", "I", false)
  | _ => ("HandBeasts$Row", "places", "[I", true)
def tyX8 : Nat → FieldType := fun k => match k with
  | 0 => .int
  | _ => .array .int
abbrev wsX80 : List Cond := u_ws RX8 TX8 2
theorem nmX8 : ∀ a, a < 2 → ∀ b, b < 2 → a ≠ b → (TX8 a).2.1 ≠ (TX8 b).2.1 := by decide +kernel
theorem tyX8_ok : ∀ k, k < 2 → parseFieldDescriptor (TX8 k).2.2.1 = some (tyX8 k) := by decide +kernel
abbrev cX8_init : ByteArray := prog_10_method_1_code
def yX8_init : MethodName := ⟨RX8, "<init>", "(I)V"⟩
abbrev cX8_isThere : ByteArray := prog_10_method_2_code
def yX8_isThere : MethodName := ⟨RX8, "isThere", "()Z"⟩
abbrev cX8_lose : ByteArray := prog_10_method_3_code
def yX8_lose : MethodName := ⟨RX8, "lose", "()V"⟩
abbrev cX8_renew : ByteArray := prog_10_method_4_code
def yX8_renew : MethodName := ⟨RX8, "renew", "(II)V"⟩
abbrev cX8_holds : ByteArray := prog_10_method_5_code
def yX8_holds : MethodName := ⟨RX8, "holds", "(I)Z"⟩
abbrev cX8_holdsFrom : ByteArray := prog_10_method_6_code
def yX8_holdsFrom : MethodName := ⟨RX8, "holdsFrom", "(II)Z"⟩
abbrev cX8_get : ByteArray := prog_10_method_7_code
def yX8_get : MethodName := ⟨RX8, "get", "(I)I"⟩
abbrev cX8_set : ByteArray := prog_10_method_8_code
def yX8_set : MethodName := ⟨RX8, "set", "(II)V"⟩
abbrev cX8_take : ByteArray := prog_10_method_9_code
def yX8_take : MethodName := ⟨RX8, "take", "(ILHandBeasts$Row;II)V"⟩
abbrev cX8_sum : ByteArray := prog_10_method_10_code
def yX8_sum : MethodName := ⟨RX8, "sum", "()J"⟩
abbrev cX8_hasLines : ByteArray := prog_10_method_11_code
def yX8_hasLines : MethodName := ⟨RX8, "hasLines", "()Z"⟩
abbrev cX8_showCells : ByteArray := prog_10_method_12_code
def yX8_showCells : MethodName := ⟨RX8, "showCells", "(LHandBeasts$Cells;)V"⟩
abbrev cX8_showTo : ByteArray := prog_10_method_13_code
def yX8_showTo : MethodName := ⟨RX8, "showTo", "(LHandBeasts$Cells;)V"⟩
abbrev cX8_digestOn : ByteArray := prog_10_method_14_code
def yX8_digestOn : MethodName := ⟨RX8, "digestOn", "(J)J"⟩
def RX9 : String := "HandBeasts$Told"
def TX9 : u_T := fun k => match k with
  | 0 => ("HandBeasts$Told", "answer", "I", false)
  | 1 => ("HandBeasts$Told", "over", "J", false)
  | 2 => ("HandBeasts$Told", "under", "J", false)
  | 3 => ("HandBeasts$Told", "latest", "I", false)
  | _ => ("HandBeasts$Told", "often", "[I", true)
def tyX9 : Nat → FieldType := fun k => match k with
  | 0 => .int
  | 1 => .long
  | 2 => .long
  | 3 => .int
  | _ => .array .int
abbrev wsX90 : List Cond := u_ws RX9 TX9 5
theorem nmX9 : ∀ a, a < 5 → ∀ b, b < 5 → a ≠ b → (TX9 a).2.1 ≠ (TX9 b).2.1 := by decide +kernel
theorem tyX9_ok : ∀ k, k < 5 → parseFieldDescriptor (TX9 k).2.2.1 = some (tyX9 k) := by decide +kernel
abbrev cX9_init : ByteArray := prog_11_method_1_code
def yX9_init : MethodName := ⟨RX9, "<init>", "()V"⟩
abbrev cX9_tell : ByteArray := prog_11_method_2_code
def yX9_tell : MethodName := ⟨RX9, "tell", "(I)I"⟩
abbrev cX9_find : ByteArray := prog_11_method_3_code
def yX9_find : MethodName := ⟨RX9, "find", "(I)I"⟩
abbrev cX9_share : ByteArray := prog_11_method_4_code
def yX9_share : MethodName := ⟨RX9, "share", "(II)V"⟩
def RX10 : String := "HandBeasts$Ways"
def TX10 : u_T := fun k => match k with
  | 0 => ("HandBeasts$Ways", "far", "[I", true)
  | 1 => ("HandBeasts$Ways", "queue", "[I", true)
  | 2 => ("HandBeasts$Ways", "queued", "I", false)
  | 3 => ("HandBeasts$Ways", "stops", "I", false)
  | 4 => ("HandBeasts$Ways", "stop", "[I", true)
  | 5 => ("HandBeasts$Ways", "stopPlace", "[I", true)
  | 6 => ("HandBeasts$Ways", "between", "[[I", true)
  | 7 => ("HandBeasts$Ways", "rest", "[I", true)
  | _ => ("HandBeasts$Ways", "inOrder", "[I", true)
def tyX10 : Nat → FieldType := fun k => match k with
  | 0 => .array .int
  | 1 => .array .int
  | 2 => .int
  | 3 => .int
  | 4 => .array .int
  | 5 => .array .int
  | 6 => .array (.array .int)
  | 7 => .array .int
  | _ => .array .int
abbrev wsX100 : List Cond := u_ws RX10 TX10 9
theorem nmX10 : ∀ a, a < 9 → ∀ b, b < 9 → a ≠ b → (TX10 a).2.1 ≠ (TX10 b).2.1 := by decide +kernel
theorem tyX10_ok : ∀ k, k < 9 → parseFieldDescriptor (TX10 k).2.2.1 = some (tyX10 k) := by decide +kernel
abbrev cX10_init : ByteArray := prog_12_method_1_code
def yX10_init : MethodName := ⟨RX10, "<init>", "()V"⟩
abbrev cX10_openHeld : ByteArray := prog_12_method_2_code
def yX10_openHeld : MethodName := ⟨RX10, "openHeld", "(LHandBeasts$Reach;I)V"⟩
abbrev cX10_closeSeen : ByteArray := prog_12_method_3_code
def yX10_closeSeen : MethodName := ⟨RX10, "closeSeen", "(LHandBeasts$Reach;LHandBeasts$Beast;III)V"⟩
abbrev cX10_length : ByteArray := prog_12_method_4_code
def yX10_length : MethodName := ⟨RX10, "length", "(LHandBeasts$Reach;LHandBeasts$Hands;II)I"⟩
abbrev cX10_farOf : ByteArray := prog_12_method_5_code
def yX10_farOf : MethodName := ⟨RX10, "farOf", "(I)I"⟩
abbrev cX10_walk : ByteArray := prog_12_method_6_code
def yX10_walk : MethodName := ⟨RX10, "walk", "(LHandBeasts$Reach;LHandBeasts$Hands;II)V"⟩
abbrev cX10_come : ByteArray := prog_12_method_7_code
def yX10_come : MethodName := ⟨RX10, "come", "(II)V"⟩
abbrev cX10_beginOrder : ByteArray := prog_12_method_8_code
def yX10_beginOrder : MethodName := ⟨RX10, "beginOrder", "()V"⟩
abbrev cX10_addStop : ByteArray := prog_12_method_9_code
def yX10_addStop : MethodName := ⟨RX10, "addStop", "(II)V"⟩
abbrev cX10_orderStops : ByteArray := prog_12_method_10_code
def yX10_orderStops : MethodName := ⟨RX10, "orderStops", "(LHandBeasts$Reach;LHandBeasts$Hands;I)I"⟩
abbrev cX10_restBy : ByteArray := prog_12_method_11_code
def yX10_restBy : MethodName := ⟨RX10, "restBy", "(III)I"⟩
abbrev cX10_leastRest : ByteArray := prog_12_method_12_code
def yX10_leastRest : MethodName := ⟨RX10, "leastRest", "(II)I"⟩
abbrev cX10_putInOrder : ByteArray := prog_12_method_13_code
def yX10_putInOrder : MethodName := ⟨RX10, "putInOrder", "()V"⟩
abbrev cX10_firstNext : ByteArray := prog_12_method_14_code
def yX10_firstNext : MethodName := ⟨RX10, "firstNext", "(II)I"⟩
def RX11 : String := "HandBeasts"
def TX11 : u_T := fun k => match k with
  | 0 => ("HandBeasts", "told", "LHandBeasts$Told;", true)
  | 1 => ("HandBeasts", "rows", "[LHandBeasts$Row;", true)
  | 2 => ("HandBeasts", "texts", "[LHandBeasts$Row;", true)
  | 3 => ("HandBeasts", "reader", "LHandBeasts$Reader;", true)
  | 4 => ("HandBeasts", "hands", "LHandBeasts$Hands;", true)
  | 5 => ("HandBeasts", "draft", "LHandBeasts$Hands;", true)
  | 6 => ("HandBeasts", "light", "LHandBeasts$Lamp;", true)
  | 7 => ("HandBeasts", "otherLight", "LHandBeasts$Lamp;", true)
  | 8 => ("HandBeasts", "tension", "I", false)
  | 9 => ("HandBeasts", "poses", "[LHandBeasts$Pose;", true)
  | 10 => ("HandBeasts", "poseNumber", "I", false)
  | 11 => ("HandBeasts", "beasts", "[LHandBeasts$Beast;", true)
  | 12 => ("HandBeasts", "lookers", "LHandBeasts$Lookers;", true)
  | 13 => ("HandBeasts", "reach", "LHandBeasts$Reach;", true)
  | 14 => ("HandBeasts", "ways", "LHandBeasts$Ways;", true)
  | 15 => ("HandBeasts", "seen", "LHandBeasts$Cells;", true)
  | 16 => ("HandBeasts", "wanted", "LHandBeasts$Cells;", true)
  | _ => ("HandBeasts", "ever", "LHandBeasts$Cells;", true)
def tyX11 : Nat → FieldType := fun k => match k with
  | 0 => .object "HandBeasts$Told"
  | 1 => .array (.object "HandBeasts$Row")
  | 2 => .array (.object "HandBeasts$Row")
  | 3 => .object "HandBeasts$Reader"
  | 4 => .object "HandBeasts$Hands"
  | 5 => .object "HandBeasts$Hands"
  | 6 => .object "HandBeasts$Lamp"
  | 7 => .object "HandBeasts$Lamp"
  | 8 => .int
  | 9 => .array (.object "HandBeasts$Pose")
  | 10 => .int
  | 11 => .array (.object "HandBeasts$Beast")
  | 12 => .object "HandBeasts$Lookers"
  | 13 => .object "HandBeasts$Reach"
  | 14 => .object "HandBeasts$Ways"
  | 15 => .object "HandBeasts$Cells"
  | 16 => .object "HandBeasts$Cells"
  | _ => .object "HandBeasts$Cells"
abbrev wsX110 : List Cond := u_ws RX11 TX11 18
theorem nmX11 : ∀ a, a < 18 → ∀ b, b < 18 → a ≠ b → (TX11 a).2.1 ≠ (TX11 b).2.1 := by decide +kernel
theorem tyX11_ok : ∀ k, k < 18 → parseFieldDescriptor (TX11 k).2.2.1 = some (tyX11 k) := by decide +kernel
abbrev cX11_init : ByteArray := prog_1_method_1_code
def yX11_init : MethodName := ⟨RX11, "<init>", "()V"⟩
abbrev cX11_row : ByteArray := prog_1_method_2_code
def yX11_row : MethodName := ⟨RX11, "row", "(II)I"⟩
abbrev cX11_lay : ByteArray := prog_1_method_3_code
def yX11_lay : MethodName := ⟨RX11, "lay", "(III)I"⟩
abbrev cX11_at : ByteArray := prog_1_method_4_code
def yX11_at : MethodName := ⟨RX11, "at", "(II)I"⟩
abbrev cX11_tear : ByteArray := prog_1_method_5_code
def yX11_tear : MethodName := ⟨RX11, "tear", "(I)I"⟩
abbrev cX11_copy : ByteArray := prog_1_method_6_code
def yX11_copy : MethodName := ⟨RX11, "copy", "(IIIII)I"⟩
abbrev cX11_mean : ByteArray := prog_1_method_7_code
def yX11_mean : MethodName := ⟨RX11, "mean", "(I)I"⟩
abbrev cX11_text : ByteArray := prog_1_method_8_code
def yX11_text : MethodName := ⟨RX11, "text", "(II)I"⟩
abbrev cX11_put : ByteArray := prog_1_method_9_code
def yX11_put : MethodName := ⟨RX11, "put", "(III)I"⟩
abbrev cX11_fault : ByteArray := prog_1_method_10_code
def yX11_fault : MethodName := ⟨RX11, "fault", "(I)I"⟩
abbrev cX11_hands : ByteArray := prog_1_method_11_code
def yX11_hands : MethodName := ⟨RX11, "hands", "(I)I"⟩
abbrev cX11_finger : ByteArray := prog_1_method_12_code
def yX11_finger : MethodName := ⟨RX11, "finger", "(II)I"⟩
abbrev cX11_joint : ByteArray := prog_1_method_13_code
def yX11_joint : MethodName := ⟨RX11, "joint", "(II)I"⟩
abbrev cX11_strain : ByteArray := prog_1_method_14_code
def yX11_strain : MethodName := ⟨RX11, "strain", "(I)I"⟩
abbrev cX11_lamp : ByteArray := prog_1_method_15_code
def yX11_lamp : MethodName := ⟨RX11, "lamp", "(III)I"⟩
abbrev cX11_pose : ByteArray := prog_1_method_16_code
def yX11_pose : MethodName := ⟨RX11, "pose", "(II)I"⟩
abbrev cX11_help : ByteArray := prog_1_method_17_code
def yX11_help : MethodName := ⟨RX11, "help", "(II)I"⟩
abbrev cX11_back : ByteArray := prog_1_method_18_code
def yX11_back : MethodName := ⟨RX11, "back", "(I)I"⟩
abbrev cX11_about : ByteArray := prog_1_method_19_code
def yX11_about : MethodName := ⟨RX11, "about", "(II)I"⟩
abbrev cX11_turn : ByteArray := prog_1_method_20_code
def yX11_turn : MethodName := ⟨RX11, "turn", "(II)I"⟩
abbrev cX11_mark : ByteArray := prog_1_method_21_code
def yX11_mark : MethodName := ⟨RX11, "mark", "(II)I"⟩
abbrev cX11_shape : ByteArray := prog_1_method_22_code
def yX11_shape : MethodName := ⟨RX11, "shape", "(II)I"⟩
abbrev cX11_thrown : ByteArray := prog_1_method_23_code
def yX11_thrown : MethodName := ⟨RX11, "thrown", "(II)I"⟩
abbrev cX11_beast : ByteArray := prog_1_method_24_code
def yX11_beast : MethodName := ⟨RX11, "beast", "(IIII)I"⟩
abbrev cX11_off : ByteArray := prog_1_method_25_code
def yX11_off : MethodName := ⟨RX11, "off", "(II)I"⟩
abbrev cX11_many : ByteArray := prog_1_method_26_code
def yX11_many : MethodName := ⟨RX11, "many", "()I"⟩
abbrev cX11_nearest : ByteArray := prog_1_method_27_code
def yX11_nearest : MethodName := ⟨RX11, "nearest", "(II)I"⟩
abbrev cX11_never : ByteArray := prog_1_method_28_code
def yX11_never : MethodName := ⟨RX11, "never", "(II)I"⟩
abbrev cX11_sets : ByteArray := prog_1_method_29_code
def yX11_sets : MethodName := ⟨RX11, "sets", "(I)I"⟩
abbrev cX11_way : ByteArray := prog_1_method_30_code
def yX11_way : MethodName := ⟨RX11, "way", "(II)I"⟩
abbrev cX11_unseen : ByteArray := prog_1_method_31_code
def yX11_unseen : MethodName := ⟨RX11, "unseen", "(IIII)I"⟩
abbrev cX11_where : ByteArray := prog_1_method_32_code
def yX11_where : MethodName := ⟨RX11, "where", "(II)I"⟩
abbrev cX11_picture : ByteArray := prog_1_method_33_code
def yX11_picture : MethodName := ⟨RX11, "picture", "(I)I"⟩
abbrev cX11_order : ByteArray := prog_1_method_34_code
def yX11_order : MethodName := ⟨RX11, "order", "(II)I"⟩
abbrev cX11_two : ByteArray := prog_1_method_35_code
def yX11_two : MethodName := ⟨RX11, "two", "(II)I"⟩
abbrev cX11_stiff : ByteArray := prog_1_method_36_code
def yX11_stiff : MethodName := ⟨RX11, "stiff", "(II)I"⟩
abbrev cX11_looker : ByteArray := prog_1_method_37_code
def yX11_looker : MethodName := ⟨RX11, "looker", "(III)I"⟩
abbrev cX11_weight : ByteArray := prog_1_method_38_code
def yX11_weight : MethodName := ⟨RX11, "weight", "(II)I"⟩
abbrev cX11_call : ByteArray := prog_1_method_39_code
def yX11_call : MethodName := ⟨RX11, "call", "(III)I"⟩
abbrev cX11_guess : ByteArray := prog_1_method_40_code
def yX11_guess : MethodName := ⟨RX11, "guess", "(II)I"⟩
abbrev cX11_agrees : ByteArray := prog_1_method_41_code
def yX11_agrees : MethodName := ⟨RX11, "agrees", "(I)I"⟩
abbrev cX11_fit : ByteArray := prog_1_method_42_code
def yX11_fit : MethodName := ⟨RX11, "fit", "(I)I"⟩
abbrev cX11_odds : ByteArray := prog_1_method_43_code
def yX11_odds : MethodName := ⟨RX11, "odds", "(II)I"⟩
abbrev cX11_asked : ByteArray := prog_1_method_44_code
def yX11_asked : MethodName := ⟨RX11, "asked", "()I"⟩
abbrev cX11_upper : ByteArray := prog_1_method_45_code
def yX11_upper : MethodName := ⟨RX11, "upper", "()J"⟩
abbrev cX11_lower : ByteArray := prog_1_method_46_code
def yX11_lower : MethodName := ⟨RX11, "lower", "()J"⟩
abbrev cX11_count : ByteArray := prog_1_method_47_code
def yX11_count : MethodName := ⟨RX11, "count", "(I)I"⟩
abbrev cX11_finding : ByteArray := prog_1_method_48_code
def yX11_finding : MethodName := ⟨RX11, "finding", "()I"⟩
abbrev cX11_findings : ByteArray := prog_1_method_49_code
def yX11_findings : MethodName := ⟨RX11, "findings", "(I)I"⟩
abbrev cX11_digest : ByteArray := prog_1_method_50_code
def yX11_digest : MethodName := ⟨RX11, "digest", "()J"⟩
abbrev cX11_isRow : ByteArray := prog_1_method_51_code
def yX11_isRow : MethodName := ⟨RX11, "isRow", "(I)Z"⟩
abbrev cX11_isText : ByteArray := prog_1_method_52_code
def yX11_isText : MethodName := ⟨RX11, "isText", "(I)Z"⟩
abbrev cX11_isBeast : ByteArray := prog_1_method_53_code
def yX11_isBeast : MethodName := ⟨RX11, "isBeast", "(I)Z"⟩
abbrev cX11_isWeight : ByteArray := prog_1_method_54_code
def yX11_isWeight : MethodName := ⟨RX11, "isWeight", "(I)Z"⟩
abbrev cX11_isShift : ByteArray := prog_1_method_55_code
def yX11_isShift : MethodName := ⟨RX11, "isShift", "(I)Z"⟩
abbrev cX11_isJoint : ByteArray := prog_1_method_56_code
def yX11_isJoint : MethodName := ⟨RX11, "isJoint", "(I)Z"⟩
abbrev cX11_isPose : ByteArray := prog_1_method_57_code
def yX11_isPose : MethodName := ⟨RX11, "isPose", "(I)Z"⟩
abbrev cX11_isLooker : ByteArray := prog_1_method_58_code
def yX11_isLooker : MethodName := ⟨RX11, "isLooker", "(I)Z"⟩
abbrev cX11_shadowFinding : ByteArray := prog_1_method_59_code
def yX11_shadowFinding : MethodName := ⟨RX11, "shadowFinding", "(LHandBeasts$Row;LHandBeasts$Row;)I"⟩
abbrev cX11_dropPoses : ByteArray := prog_1_method_60_code
def yX11_dropPoses : MethodName := ⟨RX11, "dropPoses", "(I)V"⟩
abbrev cX11_placeOf : ByteArray := prog_1_method_61_code
def yX11_placeOf : MethodName := ⟨RX11, "placeOf", "(I)I"⟩
abbrev cX11_numberThrowingBy : ByteArray := prog_1_method_62_code
def yX11_numberThrowingBy : MethodName := ⟨RX11, "numberThrowingBy", "(LHandBeasts$Lamp;)I"⟩
abbrev cX11_look : ByteArray := prog_1_method_63_code
def yX11_look : MethodName := ⟨RX11, "look", "(I)V"⟩
abbrev cX11_guessed : ByteArray := prog_1_method_64_code
def yX11_guessed : MethodName := ⟨RX11, "guessed", "(II)I"⟩
abbrev cX11_heldPoses : ByteArray := prog_1_method_65_code
def yX11_heldPoses : MethodName := ⟨RX11, "heldPoses", "()I"⟩
abbrev cX11_beastsThere : ByteArray := prog_1_method_66_code
def yX11_beastsThere : MethodName := ⟨RX11, "beastsThere", "()I"⟩
abbrev cX11_there : ByteArray := prog_1_method_67_code
def yX11_there : MethodName := ⟨RX11, "there", "([LHandBeasts$Row;)I"⟩
abbrev cX11_mix : ByteArray := prog_1_method_68_code
def yX11_mix : MethodName := ⟨RX11, "mix", "(JJ)J"⟩
def RX12 : String := "HandBeastsModel"
def TX12 : u_T := fun k => match k with
  | 0 => ("HandBeastsModel", "latest", "I", false)
  | 1 => ("HandBeastsModel", "came", "[I", true)
  | 2 => ("HandBeastsModel", "asked", "I", false)
  | 3 => ("HandBeastsModel", "upper", "J", false)
  | 4 => ("HandBeastsModel", "lower", "J", false)
  | 5 => ("HandBeastsModel", "sizes", "[I", true)
  | 6 => ("HandBeastsModel", "rows", "[I", true)
  | 7 => ("HandBeastsModel", "copied", "[I", true)
  | 8 => ("HandBeastsModel", "textSizes", "[I", true)
  | 9 => ("HandBeastsModel", "bytes", "[B", true)
  | 10 => ("HandBeastsModel", "handMany", "I", false)
  | 11 => ("HandBeastsModel", "fingerMany", "I", false)
  | 12 => ("HandBeastsModel", "jointMany", "I", false)
  | 13 => ("HandBeastsModel", "wrists", "[I", true)
  | 14 => ("HandBeastsModel", "fingers", "[I", true)
  | 15 => ("HandBeastsModel", "joints", "[I", true)
  | 16 => ("HandBeastsModel", "readAt", "I", false)
  | 17 => ("HandBeastsModel", "readNumber", "I", false)
  | 18 => ("HandBeastsModel", "readHands", "I", false)
  | 19 => ("HandBeastsModel", "readFingers", "I", false)
  | 20 => ("HandBeastsModel", "readJoints", "I", false)
  | 21 => ("HandBeastsModel", "readWrist", "[I", true)
  | 22 => ("HandBeastsModel", "readFinger", "[I", true)
  | 23 => ("HandBeastsModel", "readJoint", "[I", true)
  | 24 => ("HandBeastsModel", "strained", "I", false)
  | 25 => ("HandBeastsModel", "z", "I", false)
  | 26 => ("HandBeastsModel", "dx", "I", false)
  | 27 => ("HandBeastsModel", "dy", "I", false)
  | 28 => ("HandBeastsModel", "turns", "[I", true)
  | 29 => ("HandBeastsModel", "pointMany", "I", false)
  | 30 => ("HandBeastsModel", "px", "[I", true)
  | 31 => ("HandBeastsModel", "py", "[I", true)
  | 32 => ("HandBeastsModel", "dark", "[I", true)
  | 33 => ("HandBeastsModel", "poseMany", "I", false)
  | 34 => ("HandBeastsModel", "poses", "[I", true)
  | 35 => ("HandBeastsModel", "poseTurns", "[I", true)
  | 36 => ("HandBeastsModel", "cards", "[I", true)
  | 37 => ("HandBeastsModel", "isThere", "[Z", true)
  | 38 => ("HandBeastsModel", "musts", "[I", true)
  | 39 => ("HandBeastsModel", "mays", "[I", true)
  | 40 => ("HandBeastsModel", "moving", "[I", true)
  | 41 => ("HandBeastsModel", "bestCode", "I", false)
  | 42 => ("HandBeastsModel", "ever", "[I", true)
  | 43 => ("HandBeastsModel", "wanted", "[I", true)
  | 44 => ("HandBeastsModel", "lowTurns", "[I", true)
  | 45 => ("HandBeastsModel", "highTurns", "[I", true)
  | 46 => ("HandBeastsModel", "far", "[I", true)
  | 47 => ("HandBeastsModel", "queue", "[I", true)
  | 48 => ("HandBeastsModel", "opens", "[Z", true)
  | 49 => ("HandBeastsModel", "setMany", "I", false)
  | 50 => ("HandBeastsModel", "setPose", "[I", true)
  | 51 => ("HandBeastsModel", "setWay", "[I", true)
  | 52 => ("HandBeastsModel", "toCome", "[I", true)
  | 53 => ("HandBeastsModel", "lookerMany", "I", false)
  | 54 => ("HandBeastsModel", "weights", "[I", true)
  | 55 => ("HandBeastsModel", "callMany", "I", false)
  | 56 => ("HandBeastsModel", "calls", "[I", true)
  | 57 => ("HandBeastsModel", "guessSum", "I", false)
  | _ => ("HandBeastsModel", "hash", "J", false)
def tyX12 : Nat → FieldType := fun k => match k with
  | 0 => .int
  | 1 => .array .int
  | 2 => .int
  | 3 => .long
  | 4 => .long
  | 5 => .array .int
  | 6 => .array .int
  | 7 => .array .int
  | 8 => .array .int
  | 9 => .array .byte
  | 10 => .int
  | 11 => .int
  | 12 => .int
  | 13 => .array .int
  | 14 => .array .int
  | 15 => .array .int
  | 16 => .int
  | 17 => .int
  | 18 => .int
  | 19 => .int
  | 20 => .int
  | 21 => .array .int
  | 22 => .array .int
  | 23 => .array .int
  | 24 => .int
  | 25 => .int
  | 26 => .int
  | 27 => .int
  | 28 => .array .int
  | 29 => .int
  | 30 => .array .int
  | 31 => .array .int
  | 32 => .array .int
  | 33 => .int
  | 34 => .array .int
  | 35 => .array .int
  | 36 => .array .int
  | 37 => .array .boolean
  | 38 => .array .int
  | 39 => .array .int
  | 40 => .array .int
  | 41 => .int
  | 42 => .array .int
  | 43 => .array .int
  | 44 => .array .int
  | 45 => .array .int
  | 46 => .array .int
  | 47 => .array .int
  | 48 => .array .boolean
  | 49 => .int
  | 50 => .array .int
  | 51 => .array .int
  | 52 => .array .int
  | 53 => .int
  | 54 => .array .int
  | 55 => .int
  | 56 => .array .int
  | 57 => .int
  | _ => .long
abbrev wsX120 : List Cond := u_ws RX12 TX12 59
theorem nmX12 : ∀ a, a < 59 → ∀ b, b < 59 → a ≠ b → (TX12 a).2.1 ≠ (TX12 b).2.1 := by decide +kernel
theorem tyX12_ok : ∀ k, k < 59 → parseFieldDescriptor (TX12 k).2.2.1 = some (tyX12 k) := by decide +kernel
abbrev cX12_init : ByteArray := prog_14_method_1_code
def yX12_init : MethodName := ⟨RX12, "<init>", "()V"⟩
abbrev cX12_in : ByteArray := prog_14_method_2_code
def yX12_in : MethodName := ⟨RX12, "in", "(III)Z"⟩
abbrev cX12_has : ByteArray := prog_14_method_3_code
def yX12_has : MethodName := ⟨RX12, "has", "(II)Z"⟩
abbrev cX12_bits : ByteArray := prog_14_method_4_code
def yX12_bits : MethodName := ⟨RX12, "bits", "(I)I"⟩
abbrev cX12_meets : ByteArray := prog_14_method_5_code
def yX12_meets : MethodName := ⟨RX12, "meets", "(I)I"⟩
abbrev cX12_finding : ByteArray := prog_14_method_6_code
def yX12_finding : MethodName := ⟨RX12, "finding", "()I"⟩
abbrev cX12_findings : ByteArray := prog_14_method_7_code
def yX12_findings : MethodName := ⟨RX12, "findings", "(I)I"⟩
abbrev cX12_tells : ByteArray := prog_14_method_8_code
def yX12_tells : MethodName := ⟨RX12, "tells", "(II)I"⟩
abbrev cX12_asked : ByteArray := prog_14_method_9_code
def yX12_asked : MethodName := ⟨RX12, "asked", "()I"⟩
abbrev cX12_fraction : ByteArray := prog_14_method_10_code
def yX12_fraction : MethodName := ⟨RX12, "fraction", "(JJI)I"⟩
abbrev cX12_upper : ByteArray := prog_14_method_11_code
def yX12_upper : MethodName := ⟨RX12, "upper", "()J"⟩
abbrev cX12_lower : ByteArray := prog_14_method_12_code
def yX12_lower : MethodName := ⟨RX12, "lower", "()J"⟩
abbrev cX12_isRow : ByteArray := prog_14_method_13_code
def yX12_isRow : MethodName := ⟨RX12, "isRow", "(I)Z"⟩
abbrev cX12_rowAt : ByteArray := prog_14_method_14_code
def yX12_rowAt : MethodName := ⟨RX12, "rowAt", "(II)I"⟩
abbrev cX12_row : ByteArray := prog_14_method_15_code
def yX12_row : MethodName := ⟨RX12, "row", "(II)I"⟩
abbrev cX12_lay : ByteArray := prog_14_method_16_code
def yX12_lay : MethodName := ⟨RX12, "lay", "(III)I"⟩
abbrev cX12_at : ByteArray := prog_14_method_17_code
def yX12_at : MethodName := ⟨RX12, "at", "(II)I"⟩
abbrev cX12_tear : ByteArray := prog_14_method_18_code
def yX12_tear : MethodName := ⟨RX12, "tear", "(I)I"⟩
abbrev cX12_copy : ByteArray := prog_14_method_19_code
def yX12_copy : MethodName := ⟨RX12, "copy", "(IIIII)I"⟩
abbrev cX12_mean : ByteArray := prog_14_method_20_code
def yX12_mean : MethodName := ⟨RX12, "mean", "(I)I"⟩
abbrev cX12_isText : ByteArray := prog_14_method_21_code
def yX12_isText : MethodName := ⟨RX12, "isText", "(I)Z"⟩
abbrev cX12_text : ByteArray := prog_14_method_22_code
def yX12_text : MethodName := ⟨RX12, "text", "(II)I"⟩
abbrev cX12_put : ByteArray := prog_14_method_23_code
def yX12_put : MethodName := ⟨RX12, "put", "(III)I"⟩
abbrev cX12_byteAt : ByteArray := prog_14_method_24_code
def yX12_byteAt : MethodName := ⟨RX12, "byteAt", "(II)I"⟩
abbrev cX12_figure : ByteArray := prog_14_method_25_code
def yX12_figure : MethodName := ⟨RX12, "figure", "(II)Z"⟩
abbrev cX12_isFigure : ByteArray := prog_14_method_26_code
def yX12_isFigure : MethodName := ⟨RX12, "isFigure", "(I)Z"⟩
abbrev cX12_readsHand : ByteArray := prog_14_method_27_code
def yX12_readsHand : MethodName := ⟨RX12, "readsHand", "(I)Z"⟩
abbrev cX12_readsFinger : ByteArray := prog_14_method_28_code
def yX12_readsFinger : MethodName := ⟨RX12, "readsFinger", "(I)Z"⟩
abbrev cX12_faultOf : ByteArray := prog_14_method_29_code
def yX12_faultOf : MethodName := ⟨RX12, "faultOf", "(I)I"⟩
abbrev cX12_fault : ByteArray := prog_14_method_30_code
def yX12_fault : MethodName := ⟨RX12, "fault", "(I)I"⟩
abbrev cX12_hands : ByteArray := prog_14_method_31_code
def yX12_hands : MethodName := ⟨RX12, "hands", "(I)I"⟩
abbrev cX12_finger : ByteArray := prog_14_method_32_code
def yX12_finger : MethodName := ⟨RX12, "finger", "(II)I"⟩
abbrev cX12_isJoint : ByteArray := prog_14_method_33_code
def yX12_isJoint : MethodName := ⟨RX12, "isJoint", "(I)Z"⟩
abbrev cX12_joint : ByteArray := prog_14_method_34_code
def yX12_joint : MethodName := ⟨RX12, "joint", "(II)I"⟩
abbrev cX12_least : ByteArray := prog_14_method_35_code
def yX12_least : MethodName := ⟨RX12, "least", "(I)I"⟩
abbrev cX12_most : ByteArray := prog_14_method_36_code
def yX12_most : MethodName := ⟨RX12, "most", "(I)I"⟩
abbrev cX12_strain : ByteArray := prog_14_method_37_code
def yX12_strain : MethodName := ⟨RX12, "strain", "(I)I"⟩
abbrev cX12_lampNow : ByteArray := prog_14_method_38_code
def yX12_lampNow : MethodName := ⟨RX12, "lampNow", "()I"⟩
abbrev cX12_lamp : ByteArray := prog_14_method_39_code
def yX12_lamp : MethodName := ⟨RX12, "lamp", "(III)I"⟩
abbrev cX12_layLamp : ByteArray := prog_14_method_40_code
def yX12_layLamp : MethodName := ⟨RX12, "layLamp", "(III)V"⟩
abbrev cX12_wayX : ByteArray := prog_14_method_41_code
def yX12_wayX : MethodName := ⟨RX12, "wayX", "(I)I"⟩
abbrev cX12_wayY : ByteArray := prog_14_method_42_code
def yX12_wayY : MethodName := ⟨RX12, "wayY", "(I)I"⟩
abbrev cX12_point : ByteArray := prog_14_method_43_code
def yX12_point : MethodName := ⟨RX12, "point", "(II)V"⟩
abbrev cX12_layPoints : ByteArray := prog_14_method_44_code
def yX12_layPoints : MethodName := ⟨RX12, "layPoints", "(I)V"⟩
abbrev cX12_layFinger : ByteArray := prog_14_method_45_code
def yX12_layFinger : MethodName := ⟨RX12, "layFinger", "(I)V"⟩
abbrev cX12_isOn : ByteArray := prog_14_method_46_code
def yX12_isOn : MethodName := ⟨RX12, "isOn", "(II)Z"⟩
abbrev cX12_wrongMany : ByteArray := prog_14_method_47_code
def yX12_wrongMany : MethodName := ⟨RX12, "wrongMany", "()I"⟩
abbrev cX12_turned : ByteArray := prog_14_method_48_code
def yX12_turned : MethodName := ⟨RX12, "turned", "(I)I"⟩
abbrev cX12_kindNow : ByteArray := prog_14_method_49_code
def yX12_kindNow : MethodName := ⟨RX12, "kindNow", "(I)I"⟩
abbrev cX12_turnsMany : ByteArray := prog_14_method_50_code
def yX12_turnsMany : MethodName := ⟨RX12, "turnsMany", "()I"⟩
abbrev cX12_layTurns : ByteArray := prog_14_method_51_code
def yX12_layTurns : MethodName := ⟨RX12, "layTurns", "(I)V"⟩
abbrev cX12_codeNow : ByteArray := prog_14_method_52_code
def yX12_codeNow : MethodName := ⟨RX12, "codeNow", "()I"⟩
abbrev cX12_isHeld : ByteArray := prog_14_method_53_code
def yX12_isHeld : MethodName := ⟨RX12, "isHeld", "(II)Z"⟩
abbrev cX12_darken : ByteArray := prog_14_method_54_code
def yX12_darken : MethodName := ⟨RX12, "darken", "(II)V"⟩
abbrev cX12_layBright : ByteArray := prog_14_method_55_code
def yX12_layBright : MethodName := ⟨RX12, "layBright", "()V"⟩
abbrev cX12_darkMany : ByteArray := prog_14_method_56_code
def yX12_darkMany : MethodName := ⟨RX12, "darkMany", "()I"⟩
abbrev cX12_layShape : ByteArray := prog_14_method_57_code
def yX12_layShape : MethodName := ⟨RX12, "layShape", "()V"⟩
abbrev cX12_layThrown : ByteArray := prog_14_method_58_code
def yX12_layThrown : MethodName := ⟨RX12, "layThrown", "()V"⟩
abbrev cX12_clear : ByteArray := prog_14_method_59_code
def yX12_clear : MethodName := ⟨RX12, "clear", "(II)V"⟩
abbrev cX12_toRow : ByteArray := prog_14_method_60_code
def yX12_toRow : MethodName := ⟨RX12, "toRow", "(I)I"⟩
abbrev cX12_needShadow : ByteArray := prog_14_method_61_code
def yX12_needShadow : MethodName := ⟨RX12, "needShadow", "(I)I"⟩
abbrev cX12_isPose : ByteArray := prog_14_method_62_code
def yX12_isPose : MethodName := ⟨RX12, "isPose", "(I)Z"⟩
abbrev cX12_kind : ByteArray := prog_14_method_63_code
def yX12_kind : MethodName := ⟨RX12, "kind", "(I)I"⟩
abbrev cX12_isHeldPose : ByteArray := prog_14_method_64_code
def yX12_isHeldPose : MethodName := ⟨RX12, "isHeldPose", "(I)Z"⟩
abbrev cX12_layPose : ByteArray := prog_14_method_65_code
def yX12_layPose : MethodName := ⟨RX12, "layPose", "(I)V"⟩
abbrev cX12_greater : ByteArray := prog_14_method_66_code
def yX12_greater : MethodName := ⟨RX12, "greater", "(II)I"⟩
abbrev cX12_pose : ByteArray := prog_14_method_67_code
def yX12_pose : MethodName := ⟨RX12, "pose", "(II)I"⟩
abbrev cX12_cardMany : ByteArray := prog_14_method_68_code
def yX12_cardMany : MethodName := ⟨RX12, "cardMany", "(I)I"⟩
abbrev cX12_help : ByteArray := prog_14_method_69_code
def yX12_help : MethodName := ⟨RX12, "help", "(II)I"⟩
abbrev cX12_back : ByteArray := prog_14_method_70_code
def yX12_back : MethodName := ⟨RX12, "back", "(I)I"⟩
abbrev cX12_aboutPose : ByteArray := prog_14_method_71_code
def yX12_aboutPose : MethodName := ⟨RX12, "aboutPose", "(II)I"⟩
abbrev cX12_about : ByteArray := prog_14_method_72_code
def yX12_about : MethodName := ⟨RX12, "about", "(II)I"⟩
abbrev cX12_turn : ByteArray := prog_14_method_73_code
def yX12_turn : MethodName := ⟨RX12, "turn", "(II)I"⟩
abbrev cX12_mark : ByteArray := prog_14_method_74_code
def yX12_mark : MethodName := ⟨RX12, "mark", "(II)I"⟩
abbrev cX12_shape : ByteArray := prog_14_method_75_code
def yX12_shape : MethodName := ⟨RX12, "shape", "(II)I"⟩
abbrev cX12_throwPose : ByteArray := prog_14_method_76_code
def yX12_throwPose : MethodName := ⟨RX12, "throwPose", "(I)V"⟩
abbrev cX12_thrown : ByteArray := prog_14_method_77_code
def yX12_thrown : MethodName := ⟨RX12, "thrown", "(II)I"⟩
abbrev cX12_isBeast : ByteArray := prog_14_method_78_code
def yX12_isBeast : MethodName := ⟨RX12, "isBeast", "(I)Z"⟩
abbrev cX12_beast : ByteArray := prog_14_method_79_code
def yX12_beast : MethodName := ⟨RX12, "beast", "(IIII)I"⟩
abbrev cX12_missedBy : ByteArray := prog_14_method_80_code
def yX12_missedBy : MethodName := ⟨RX12, "missedBy", "(I)I"⟩
abbrev cX12_overBy : ByteArray := prog_14_method_81_code
def yX12_overBy : MethodName := ⟨RX12, "overBy", "(I)I"⟩
abbrev cX12_offBy : ByteArray := prog_14_method_82_code
def yX12_offBy : MethodName := ⟨RX12, "offBy", "(I)I"⟩
abbrev cX12_off : ByteArray := prog_14_method_83_code
def yX12_off : MethodName := ⟨RX12, "off", "(II)I"⟩
abbrev cX12_many : ByteArray := prog_14_method_84_code
def yX12_many : MethodName := ⟨RX12, "many", "()I"⟩
abbrev cX12_leastOff : ByteArray := prog_14_method_85_code
def yX12_leastOff : MethodName := ⟨RX12, "leastOff", "(III)I"⟩
abbrev cX12_needBeast : ByteArray := prog_14_method_86_code
def yX12_needBeast : MethodName := ⟨RX12, "needBeast", "(ZI)I"⟩
abbrev cX12_nearest : ByteArray := prog_14_method_87_code
def yX12_nearest : MethodName := ⟨RX12, "nearest", "(II)I"⟩
abbrev cX12_never : ByteArray := prog_14_method_88_code
def yX12_never : MethodName := ⟨RX12, "never", "(II)I"⟩
abbrev cX12_layWanted : ByteArray := prog_14_method_89_code
def yX12_layWanted : MethodName := ⟨RX12, "layWanted", "(I)V"⟩
abbrev cX12_isWanted : ByteArray := prog_14_method_90_code
def yX12_isWanted : MethodName := ⟨RX12, "isWanted", "()Z"⟩
abbrev cX12_throwMany : ByteArray := prog_14_method_91_code
def yX12_throwMany : MethodName := ⟨RX12, "throwMany", "()I"⟩
abbrev cX12_sets : ByteArray := prog_14_method_92_code
def yX12_sets : MethodName := ⟨RX12, "sets", "(I)I"⟩
abbrev cX12_layOpen : ByteArray := prog_14_method_93_code
def yX12_layOpen : MethodName := ⟨RX12, "layOpen", "(II)V"⟩
abbrev cX12_codeOf : ByteArray := prog_14_method_94_code
def yX12_codeOf : MethodName := ⟨RX12, "codeOf", "(I)I"⟩
abbrev cX12_wayBetween : ByteArray := prog_14_method_95_code
def yX12_wayBetween : MethodName := ⟨RX12, "wayBetween", "(II)I"⟩
abbrev cX12_way : ByteArray := prog_14_method_96_code
def yX12_way : MethodName := ⟨RX12, "way", "(II)I"⟩
abbrev cX12_unseen : ByteArray := prog_14_method_97_code
def yX12_unseen : MethodName := ⟨RX12, "unseen", "(IIII)I"⟩
abbrev cX12_where : ByteArray := prog_14_method_98_code
def yX12_where : MethodName := ⟨RX12, "where", "(II)I"⟩
abbrev cX12_picture : ByteArray := prog_14_method_99_code
def yX12_picture : MethodName := ⟨RX12, "picture", "(I)I"⟩
abbrev cX12_layToCome : ByteArray := prog_14_method_100_code
def yX12_layToCome : MethodName := ⟨RX12, "layToCome", "()V"⟩
abbrev cX12_order : ByteArray := prog_14_method_101_code
def yX12_order : MethodName := ⟨RX12, "order", "(II)I"⟩
abbrev cX12_orderTold : ByteArray := prog_14_method_102_code
def yX12_orderTold : MethodName := ⟨RX12, "orderTold", "(I)I"⟩
abbrev cX12_two : ByteArray := prog_14_method_103_code
def yX12_two : MethodName := ⟨RX12, "two", "(II)I"⟩
abbrev cX12_stiff : ByteArray := prog_14_method_104_code
def yX12_stiff : MethodName := ⟨RX12, "stiff", "(II)I"⟩
abbrev cX12_isLooker : ByteArray := prog_14_method_105_code
def yX12_isLooker : MethodName := ⟨RX12, "isLooker", "(I)Z"⟩
abbrev cX12_looker : ByteArray := prog_14_method_106_code
def yX12_looker : MethodName := ⟨RX12, "looker", "(III)I"⟩
abbrev cX12_weight : ByteArray := prog_14_method_107_code
def yX12_weight : MethodName := ⟨RX12, "weight", "(II)I"⟩
abbrev cX12_call : ByteArray := prog_14_method_108_code
def yX12_call : MethodName := ⟨RX12, "call", "(III)I"⟩
abbrev cX12_guessOf : ByteArray := prog_14_method_109_code
def yX12_guessOf : MethodName := ⟨RX12, "guessOf", "(IIII)I"⟩
abbrev cX12_guess : ByteArray := prog_14_method_110_code
def yX12_guess : MethodName := ⟨RX12, "guess", "(II)I"⟩
abbrev cX12_agreesBy : ByteArray := prog_14_method_111_code
def yX12_agreesBy : MethodName := ⟨RX12, "agreesBy", "(IIII)I"⟩
abbrev cX12_agrees : ByteArray := prog_14_method_112_code
def yX12_agrees : MethodName := ⟨RX12, "agrees", "(I)I"⟩
abbrev cX12_fit : ByteArray := prog_14_method_113_code
def yX12_fit : MethodName := ⟨RX12, "fit", "(I)I"⟩
abbrev cX12_odds : ByteArray := prog_14_method_114_code
def yX12_odds : MethodName := ⟨RX12, "odds", "(II)I"⟩
abbrev cX12_counted : ByteArray := prog_14_method_115_code
def yX12_counted : MethodName := ⟨RX12, "counted", "(I)I"⟩
abbrev cX12_count : ByteArray := prog_14_method_116_code
def yX12_count : MethodName := ⟨RX12, "count", "(I)I"⟩
abbrev cX12_mix : ByteArray := prog_14_method_117_code
def yX12_mix : MethodName := ⟨RX12, "mix", "(J)V"⟩
abbrev cX12_mixHands : ByteArray := prog_14_method_118_code
def yX12_mixHands : MethodName := ⟨RX12, "mixHands", "()V"⟩
abbrev cX12_mixBeasts : ByteArray := prog_14_method_119_code
def yX12_mixBeasts : MethodName := ⟨RX12, "mixBeasts", "()V"⟩
abbrev cX12_digest : ByteArray := prog_14_method_120_code
def yX12_digest : MethodName := ⟨RX12, "digest", "()J"⟩
def RJ6 : String := "java/lang/Integer"
def TJ6 : u_T := fun k => match k with
  | _ => ("", "", "", false)
def tyJ6 : Nat → FieldType := fun k => match k with
  | _ => .int
abbrev wsJ60 : List Cond := u_ws RJ6 TJ6 0
theorem nmJ6 : ∀ a, a < 0 → ∀ b, b < 0 → a ≠ b → (TJ6 a).2.1 ≠ (TJ6 b).2.1 := by decide +kernel
theorem tyJ6_ok : ∀ k, k < 0 → parseFieldDescriptor (TJ6 k).2.2.1 = some (tyJ6 k) := by decide +kernel
abbrev cJ6_numberOfTrailingZeros_0f7a4 : ByteArray := prog_15_method_48_code
def yJ6_numberOfTrailingZeros_0f7a4 : MethodName := ⟨RJ6, "numberOfTrailingZeros", "(I)I"⟩
abbrev cJ6_bitCount_0f7a4 : ByteArray := prog_15_method_49_code
def yJ6_bitCount_0f7a4 : MethodName := ⟨RJ6, "bitCount", "(I)I"⟩
def RJ13 : String := "java/lang/Long"
def TJ13 : u_T := fun k => match k with
  | _ => ("", "", "", false)
def tyJ13 : Nat → FieldType := fun k => match k with
  | _ => .int
abbrev wsJ130 : List Cond := u_ws RJ13 TJ13 0
theorem nmJ13 : ∀ a, a < 0 → ∀ b, b < 0 → a ≠ b → (TJ13 a).2.1 ≠ (TJ13 b).2.1 := by decide +kernel
theorem tyJ13_ok : ∀ k, k < 0 → parseFieldDescriptor (TJ13 k).2.2.1 = some (tyJ13 k) := by decide +kernel
abbrev cJ13_numberOfTrailingZeros_95d88 : ByteArray := prog_16_method_49_code
def yJ13_numberOfTrailingZeros_95d88 : MethodName := ⟨RJ13, "numberOfTrailingZeros", "(J)I"⟩
abbrev cJ13_bitCount_95d88 : ByteArray := prog_16_method_50_code
def yJ13_bitCount_95d88 : MethodName := ⟨RJ13, "bitCount", "(J)I"⟩
def RJ9 : String := "java/lang/Math"
def TJ9 : u_T := fun k => match k with
  | _ => ("", "", "", false)
def tyJ9 : Nat → FieldType := fun k => match k with
  | _ => .int
abbrev wsJ90 : List Cond := u_ws RJ9 TJ9 0
theorem nmJ9 : ∀ a, a < 0 → ∀ b, b < 0 → a ≠ b → (TJ9 a).2.1 ≠ (TJ9 b).2.1 := by decide +kernel
theorem tyJ9_ok : ∀ k, k < 0 → parseFieldDescriptor (TJ9 k).2.2.1 = some (tyJ9 k) := by decide +kernel
abbrev cJ9_abs_0f7a4 : ByteArray := prog_17_method_59_code
def yJ9_abs_0f7a4 : MethodName := ⟨RJ9, "abs", "(I)I"⟩
abbrev cJ9_max_7cf53 : ByteArray := prog_17_method_65_code
def yJ9_max_7cf53 : MethodName := ⟨RJ9, "max", "(II)I"⟩
abbrev cJ9_min_7cf53 : ByteArray := prog_17_method_69_code
def yJ9_min_7cf53 : MethodName := ⟨RJ9, "min", "(II)I"⟩
def RJ10 : String := "java/lang/System"
def TJ10 : u_T := fun k => match k with
  | _ => ("", "", "", false)
def tyJ10 : Nat → FieldType := fun k => match k with
  | _ => .int
abbrev wsJ100 : List Cond := u_ws RJ10 TJ10 0
theorem nmJ10 : ∀ a, a < 0 → ∀ b, b < 0 → a ≠ b → (TJ10 a).2.1 ≠ (TJ10 b).2.1 := by decide +kernel
theorem tyJ10_ok : ∀ k, k < 0 → parseFieldDescriptor (TJ10 k).2.2.1 = some (tyJ10 k) := by decide +kernel
def RL : String := "HandBeastsLaw"
abbrev cL_law : ByteArray := code
def yL_law : MethodName := ⟨RL, "law", "([I)Z"⟩
abbrev vwCl : List vw_C := [(RX0, TX0, 4), (RX1, TX1, 2), (RX2, TX2, 11), (RX3, TX3, 3), (RX4, TX4, 11), (RX5, TX5, 8), (RX6, TX6, 17), (RX7, TX7, 3), (RX8, TX8, 2), (RX9, TX9, 5), (RX10, TX10, 9), (RX11, TX11, 18), (RX12, TX12, 59)]
