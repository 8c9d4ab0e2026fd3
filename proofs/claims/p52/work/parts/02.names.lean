/-! ===== BEGIN words of one list among another's, by their places ===== -/
theorem goodIn_r {big : List Cond} (ws : List Cond) (ps : List Nat) (hp : ws = ps.filterMap (fun i => big[i]?)) (h : ws.all goodWord = true) : GoodIn big ws := by
  intro w hw
  have h1 := List.all_eq_true.mp h w hw
  rw [hp] at hw
  obtain ⟨i, -, hi⟩ := List.mem_filterMap.mp hw
  have hm : w ∈ big := by first | exact List.mem_of_getElem? hi | exact List.getElem?_mem hi
  exact ⟨hm, good_of_word h1⟩
theorem goodIn_app {big a b : List Cond} (ha : GoodIn big a) (hb : GoodIn big b) : GoodIn big (a ++ b) := fun w h => (List.mem_append.mp h).elim (ha w) (hb w)
theorem goodIn_ca {big a b : List Cond} {c : Cond} (ha : GoodIn big (c :: a)) (hb : GoodIn big b) : GoodIn big (c :: (a ++ b)) := fun w h => (List.mem_cons.mp h).elim (fun e => ha w (List.mem_cons.mpr (Or.inl e))) (fun h => (List.mem_append.mp h).elim (fun h => ha w (List.mem_cons.mpr (Or.inr h))) (hb w))
theorem goodIn_sub {big ws : List Cond} (hm : ∀ w ∈ ws, w ∈ big) (h : ws.all goodWord = true) : GoodIn big ws := fun w hw => ⟨hm w hw, good_of_word (List.all_eq_true.mp h w hw)⟩
/-! ===== END ===== -/

/-! ===== BEGIN new T[n][m]: the outer array a place, the inner ones among the pooled ===== -/
/-- f, but v at every address of l -/
def vr_up {α : Type} (f : Nat → α) (l : List Nat) (v : α) : Nat → α := fun a => if a ∈ l then v else f a
theorem vr_up_in {α : Type} {f : Nat → α} {l : List Nat} {v : α} {a : Nat} (h : a ∈ l) : vr_up f l v a = v := if_pos h
theorem vr_up_ne {α : Type} {f : Nat → α} {l : List Nat} {v : α} {a : Nat} (h : a ∉ l) : vr_up f l v a = f a := if_neg h
theorem vr_rows {L l : List Nat} {f : Nat → va_E} {e : va_E} (h : ∀ a, a ∈ l → a ∉ L) : va_pl L f ++ l.map (fun a => (a, e)) = va_pl (L ++ l) (vr_up f l e) := by
  unfold va_pl
  rw [List.map_append]
  congr 1
  · apply List.map_congr_left
    intro a ha
    rw [vr_up_ne (fun q => h a q ha)]
  · apply List.map_congr_left
    intro a ha
    rw [vr_up_in ha]
theorem vr_lay {X rows : va_W} {x : Nat × va_E} {pl : va_W} {D : va_G} {cl : List vw_C} {H : Heap} (hP : va_P D cl (((X ++ pl) ++ [x]) ++ rows) H) : va_P D cl ((X ++ [x]) ++ (pl ++ rows)) H := by
  rw [List.append_assoc (X ++ pl)] at hP
  have h := va_P.swap hP
  rw [← List.append_assoc X] at h
  have h2 := va_P.swap h
  rw [List.append_assoc (X ++ [x])] at h2
  exact h2
theorem vr_layD {X rows : va_W} {x : Nat × va_E} {pl : va_W} {A : Nat → Prop} (hD : va_D A (((X ++ pl) ++ [x]) ++ rows)) : va_D A ((X ++ [x]) ++ (pl ++ rows)) := by
  rw [List.append_assoc (X ++ pl)] at hD
  have h := va_D.swap hD
  rw [← List.append_assoc X] at h
  have h2 := va_D.swap h
  rw [List.append_assoc (X ++ [x])] at h2
  exact h2
theorem vr_outer (c : ClassId) (N h0 : Nat) : ∀ i : Nat, Jvm.Free.Multi.outerC c N h0 i = arrV c N (fun j => va_rf (if j < i then some (h0 + 1 + j) else none))
  | 0 => by
    show ({ cls := c, slots := Array.replicate N .null, vm := .none } : Cell) = _
    rw [arrV_new]
    refine congrArg (arrV c N) (funext fun j => ?_)
    simp [va_rf]
  | i + 1 => by
    show (Jvm.Free.Multi.outerC c N h0 i).setSlot i (.ref (h0 + 1 + i)) = _
    rw [vr_outer c N h0 i, arrV_store]
    refine congrArg (arrV c N) (funext fun j => ?_)
    by_cases e : j = i
    · subst e
      simp [updV, va_rf]
    · by_cases h : j < i
      · simp [updV, e, h, Nat.lt_succ_of_lt h]
      · simp [updV, e, h, show ¬ j < i + 1 by omega]
section VGM
variable {p : Program} {l : Launch} {e : Env} {R : Room} {s : State} {m : MethodId} {args : Array Value} {below : List Frame} {meth : Method} {c : Code} {H : Heap} {locs : List Loc} {cells slots : Nat} {Q : State → Prop}
variable {cc : ByteArray} {pc : Nat} {ls : Array Slot} {rest : List Value} {D : va_G} {cl : List vw_C} {A : Nat → Prop} {a : Nat} {tys : List (ClassId × FieldType)} {ws : va_W} {H0 : Heap}
end VGM
/-! ===== END ===== -/

/-! ===== BEGIN printed: names, fields, word lists, decode rows ===== -/
def RX0 : String := "HandBeasts$Beast"
def TX0 : u_T := fun k => match k with
  | 0 => ("HandBeasts$Beast", "must", "LHandBeasts$Cells;", true)
  | 1 => ("HandBeasts$Beast", "may", "LHandBeasts$Cells;", true)
  | 2 => ("HandBeasts$Beast", "moves", "I", false)
  | _ => ("HandBeasts$Beast", "there", "Z", false)
def tyX0 : Nat → FieldType := fun k => match k with
  | 0 => .object "HandBeasts$Cells"
  | 1 => .object "HandBeasts$Cells"
  | 2 => .int
  | _ => .boolean
abbrev wsX00 : List Cond := u_ws RX0 TX0 4
theorem nmX0 : ∀ a, a < 4 → ∀ b, b < 4 → a ≠ b → (TX0 a).2.1 ≠ (TX0 b).2.1 := by decide +kernel
theorem tyX0_ok : ∀ k, k < 4 → parseFieldDescriptor (TX0 k).2.2.1 = some (tyX0 k) := by decide +kernel
abbrev cX0_init : ByteArray := prog_2_method_1_code
def yX0_init : MethodName := ⟨RX0, "<init>", "()V"⟩
abbrev cX0_missed : ByteArray := prog_2_method_2_code
def yX0_missed : MethodName := ⟨RX0, "missed", "(JJ)I"⟩
abbrev cX0_over : ByteArray := prog_2_method_3_code
def yX0_over : MethodName := ⟨RX0, "over", "(JJ)I"⟩
abbrev cX0_offOf : ByteArray := prog_2_method_4_code
def yX0_offOf : MethodName := ⟨RX0, "offOf", "(JJ)I"⟩
def RX1 : String := "HandBeasts$Cells"
def TX1 : u_T := fun k => match k with
  | 0 => ("HandBeasts$Cells", "top", "J", false)
  | _ => ("HandBeasts$Cells", "low", "J", false)
def tyX1 : Nat → FieldType := fun k => match k with
  | 0 => .long
  | _ => .long
abbrev wsX10 : List Cond := u_ws RX1 TX1 2
theorem nmX1 : ∀ a, a < 2 → ∀ b, b < 2 → a ≠ b → (TX1 a).2.1 ≠ (TX1 b).2.1 := by decide +kernel
theorem tyX1_ok : ∀ k, k < 2 → parseFieldDescriptor (TX1 k).2.2.1 = some (tyX1 k) := by decide +kernel
abbrev cX1_init : ByteArray := prog_3_method_1_code
def yX1_init : MethodName := ⟨RX1, "<init>", "()V"⟩
abbrev cX1_clear : ByteArray := prog_3_method_2_code
def yX1_clear : MethodName := ⟨RX1, "clear", "()V"⟩
abbrev cX1_become : ByteArray := prog_3_method_3_code
def yX1_become : MethodName := ⟨RX1, "become", "(LHandBeasts$Cells;)V"⟩
abbrev cX1_join : ByteArray := prog_3_method_4_code
def yX1_join : MethodName := ⟨RX1, "join", "(JJ)V"⟩
abbrev cX1_leave : ByteArray := prog_3_method_5_code
def yX1_leave : MethodName := ⟨RX1, "leave", "(LHandBeasts$Cells;)V"⟩
abbrev cX1_has : ByteArray := prog_3_method_6_code
def yX1_has : MethodName := ⟨RX1, "has", "(LHandBeasts$Cells;)Z"⟩
abbrev cX1_is : ByteArray := prog_3_method_7_code
def yX1_is : MethodName := ⟨RX1, "is", "(JJ)Z"⟩
abbrev cX1_number : ByteArray := prog_3_method_8_code
def yX1_number : MethodName := ⟨RX1, "number", "()I"⟩
abbrev cX1_isCell : ByteArray := prog_3_method_9_code
def yX1_isCell : MethodName := ⟨RX1, "isCell", "(II)Z"⟩
abbrev cX1_addNew : ByteArray := prog_3_method_10_code
def yX1_addNew : MethodName := ⟨RX1, "addNew", "(II)Z"⟩
abbrev cX1_line : ByteArray := prog_3_method_11_code
def yX1_line : MethodName := ⟨RX1, "line", "(I)I"⟩
abbrev cX1_addLine : ByteArray := prog_3_method_12_code
def yX1_addLine : MethodName := ⟨RX1, "addLine", "(II)V"⟩
def RX2 : String := "HandBeasts$Hands"
def TX2 : u_T := fun k => match k with
  | 0 => ("HandBeasts$Hands", "wrists", "I", false)
  | 1 => ("HandBeasts$Hands", "fingers", "I", false)
  | 2 => ("HandBeasts$Hands", "joints", "I", false)
  | 3 => ("HandBeasts$Hands", "wrist", "[I", true)
  | 4 => ("HandBeasts$Hands", "owner", "[I", true)
  | 5 => ("HandBeasts$Hands", "side", "[I", true)
  | 6 => ("HandBeasts$Hands", "first", "[I", true)
  | 7 => ("HandBeasts$Hands", "length", "[I", true)
  | 8 => ("HandBeasts$Hands", "holder", "[I", true)
  | 9 => ("HandBeasts$Hands", "behind", "[I", true)
  | _ => ("HandBeasts$Hands", "ahead", "[I", true)
def tyX2 : Nat → FieldType := fun k => match k with
  | 0 => .int
  | 1 => .int
  | 2 => .int
  | 3 => .array .int
  | 4 => .array .int
  | 5 => .array .int
  | 6 => .array .int
  | 7 => .array .int
  | 8 => .array .int
  | 9 => .array .int
  | _ => .array .int
abbrev wsX20 : List Cond := u_ws RX2 TX2 11
theorem nmX2 : ∀ a, a < 11 → ∀ b, b < 11 → a ≠ b → (TX2 a).2.1 ≠ (TX2 b).2.1 := by decide +kernel
theorem tyX2_ok : ∀ k, k < 11 → parseFieldDescriptor (TX2 k).2.2.1 = some (tyX2 k) := by decide +kernel
abbrev cX2_init : ByteArray := prog_4_method_1_code
def yX2_init : MethodName := ⟨RX2, "<init>", "()V"⟩
abbrev cX2_clear : ByteArray := prog_4_method_2_code
def yX2_clear : MethodName := ⟨RX2, "clear", "()V"⟩
abbrev cX2_addHand : ByteArray := prog_4_method_3_code
def yX2_addHand : MethodName := ⟨RX2, "addHand", "(I)Z"⟩
abbrev cX2_addFinger : ByteArray := prog_4_method_4_code
def yX2_addFinger : MethodName := ⟨RX2, "addFinger", "(I)Z"⟩
abbrev cX2_addJoint : ByteArray := prog_4_method_5_code
def yX2_addJoint : MethodName := ⟨RX2, "addJoint", "(II)Z"⟩
abbrev cX2_span : ByteArray := prog_4_method_6_code
def yX2_span : MethodName := ⟨RX2, "span", "(I)I"⟩
abbrev cX2_canTurn : ByteArray := prog_4_method_7_code
def yX2_canTurn : MethodName := ⟨RX2, "canTurn", "(LHandBeasts$Row;)Z"⟩
abbrev cX2_turnFinger : ByteArray := prog_4_method_8_code
def yX2_turnFinger : MethodName := ⟨RX2, "turnFinger", "(II[I)I"⟩
abbrev cX2_wristCells : ByteArray := prog_4_method_9_code
def yX2_wristCells : MethodName := ⟨RX2, "wristCells", "(ILHandBeasts$Cells;)I"⟩
abbrev cX2_fingerCells : ByteArray := prog_4_method_10_code
def yX2_fingerCells : MethodName := ⟨RX2, "fingerCells", "(I[ILHandBeasts$Cells;)I"⟩
abbrev cX2_allCells : ByteArray := prog_4_method_11_code
def yX2_allCells : MethodName := ⟨RX2, "allCells", "([ILHandBeasts$Cells;)I"⟩
def RX3 : String := "HandBeasts$Lamp"
def TX3 : u_T := fun k => match k with
  | 0 => ("HandBeasts$Lamp", "z", "I", false)
  | 1 => ("HandBeasts$Lamp", "dx", "I", false)
  | _ => ("HandBeasts$Lamp", "dy", "I", false)
def tyX3 : Nat → FieldType := fun k => match k with
  | 0 => .int
  | 1 => .int
  | _ => .int
abbrev wsX30 : List Cond := u_ws RX3 TX3 3
theorem nmX3 : ∀ a, a < 3 → ∀ b, b < 3 → a ≠ b → (TX3 a).2.1 ≠ (TX3 b).2.1 := by decide +kernel
theorem tyX3_ok : ∀ k, k < 3 → parseFieldDescriptor (TX3 k).2.2.1 = some (tyX3 k) := by decide +kernel
abbrev cX3_init : ByteArray := prog_5_method_1_code
def yX3_init : MethodName := ⟨RX3, "<init>", "()V"⟩
abbrev cX3_become : ByteArray := prog_5_method_2_code
def yX3_become : MethodName := ⟨RX3, "become", "(III)V"⟩
abbrev cX3_becomeNumber : ByteArray := prog_5_method_3_code
def yX3_becomeNumber : MethodName := ⟨RX3, "becomeNumber", "(I)V"⟩
abbrev cX3_code : ByteArray := prog_5_method_4_code
def yX3_code : MethodName := ⟨RX3, "code", "()I"⟩
abbrev cX3_throwCells : ByteArray := prog_5_method_5_code
def yX3_throwCells : MethodName := ⟨RX3, "throwCells", "(JJLHandBeasts$Cells;)V"⟩
abbrev cX3_throwHalf : ByteArray := prog_5_method_6_code
def yX3_throwHalf : MethodName := ⟨RX3, "throwHalf", "(JILHandBeasts$Cells;)V"⟩
abbrev cX3_throwCell : ByteArray := prog_5_method_7_code
def yX3_throwCell : MethodName := ⟨RX3, "throwCell", "(IILHandBeasts$Cells;)V"⟩
def RX4 : String := "HandBeasts$Lookers"
def TX4 : u_T := fun k => match k with
  | 0 => ("HandBeasts$Lookers", "number", "I", false)
  | 1 => ("HandBeasts$Lookers", "weights", "[[I", true)
  | 2 => ("HandBeasts$Lookers", "calls", "I", false)
  | 3 => ("HandBeasts$Lookers", "caller", "[I", true)
  | 4 => ("HandBeasts$Lookers", "called", "[I", true)
  | 5 => ("HandBeasts$Lookers", "named", "[I", true)
  | 6 => ("HandBeasts$Lookers", "missed", "[I", true)
  | 7 => ("HandBeasts$Lookers", "over", "[I", true)
  | 8 => ("HandBeasts$Lookers", "unlike", "[I", true)
  | 9 => ("HandBeasts$Lookers", "least", "I", false)
  | _ => ("HandBeasts$Lookers", "hits", "[I", true)
def tyX4 : Nat → FieldType := fun k => match k with
  | 0 => .int
  | 1 => .array (.array .int)
  | 2 => .int
  | 3 => .array .int
  | 4 => .array .int
  | 5 => .array .int
  | 6 => .array .int
  | 7 => .array .int
  | 8 => .array .int
  | 9 => .int
  | _ => .array .int
abbrev wsX40 : List Cond := u_ws RX4 TX4 11
theorem nmX4 : ∀ a, a < 11 → ∀ b, b < 11 → a ≠ b → (TX4 a).2.1 ≠ (TX4 b).2.1 := by decide +kernel
theorem tyX4_ok : ∀ k, k < 11 → parseFieldDescriptor (TX4 k).2.2.1 = some (tyX4 k) := by decide +kernel
abbrev cX4_init : ByteArray := prog_6_method_1_code
def yX4_init : MethodName := ⟨RX4, "<init>", "()V"⟩
abbrev cX4_setCall : ByteArray := prog_6_method_4_code
def yX4_setCall : MethodName := ⟨RX4, "setCall", "(IIII)V"⟩
abbrev cX4_dropCalls : ByteArray := prog_6_method_5_code
def yX4_dropCalls : MethodName := ⟨RX4, "dropCalls", "(I)V"⟩
def RX5 : String := "HandBeasts$Pose"
def TX5 : u_T := fun k => match k with
  | 0 => ("HandBeasts$Pose", "turns", "[I", true)
  | 1 => ("HandBeasts$Pose", "dark", "LHandBeasts$Cells;", true)
  | 2 => ("HandBeasts$Pose", "card", "LHandBeasts$Cells;", true)
  | 3 => ("HandBeasts$Pose", "kind", "I", false)
  | 4 => ("HandBeasts$Pose", "mover", "I", false)
  | 5 => ("HandBeasts$Pose", "load", "I", false)
  | 6 => ("HandBeasts$Pose", "above", "I", false)
  | _ => ("HandBeasts$Pose", "wrong", "I", false)
def tyX5 : Nat → FieldType := fun k => match k with
  | 0 => .array .int
  | 1 => .object "HandBeasts$Cells"
  | 2 => .object "HandBeasts$Cells"
  | 3 => .int
  | 4 => .int
  | 5 => .int
  | 6 => .int
  | _ => .int
abbrev wsX50 : List Cond := u_ws RX5 TX5 8
theorem nmX5 : ∀ a, a < 8 → ∀ b, b < 8 → a ≠ b → (TX5 a).2.1 ≠ (TX5 b).2.1 := by decide +kernel
theorem tyX5_ok : ∀ k, k < 8 → parseFieldDescriptor (TX5 k).2.2.1 = some (tyX5 k) := by decide +kernel
abbrev cX5_init : ByteArray := prog_7_method_1_code
def yX5_init : MethodName := ⟨RX5, "<init>", "()V"⟩
abbrev cX5_begin : ByteArray := prog_7_method_2_code
def yX5_begin : MethodName := ⟨RX5, "begin", "(LHandBeasts$Row;I)V"⟩
abbrev cX5_judge : ByteArray := prog_7_method_3_code
def yX5_judge : MethodName := ⟨RX5, "judge", "(LHandBeasts$Hands;ILHandBeasts$Cells;)V"⟩
abbrev cX5_weigh : ByteArray := prog_7_method_4_code
def yX5_weigh : MethodName := ⟨RX5, "weigh", "()I"⟩
abbrev cX5_isHeld : ByteArray := prog_7_method_5_code
def yX5_isHeld : MethodName := ⟨RX5, "isHeld", "()Z"⟩
abbrev cX5_shadow : ByteArray := prog_7_method_6_code
def yX5_shadow : MethodName := ⟨RX5, "shadow", "(LHandBeasts$Lamp;LHandBeasts$Cells;)V"⟩
def RX6 : String := "HandBeasts$Reach"
def TX6 : u_T := fun k => match k with
  | 0 => ("HandBeasts$Reach", "spent", "Z", false)
  | 1 => ("HandBeasts$Reach", "size", "I", false)
  | 2 => ("HandBeasts$Reach", "step", "[I", true)
  | 3 => ("HandBeasts$Reach", "span", "[I", true)
  | 4 => ("HandBeasts$Reach", "load", "[B", true)
  | 5 => ("HandBeasts$Reach", "top", "[J", true)
  | 6 => ("HandBeasts$Reach", "low", "[J", true)
  | 7 => ("HandBeasts$Reach", "thrownTop", "[J", true)
  | 8 => ("HandBeasts$Reach", "thrownLow", "[J", true)
  | 9 => ("HandBeasts$Reach", "ownSize", "[I", true)
  | 10 => ("HandBeasts$Reach", "ownLoad", "[B", true)
  | 11 => ("HandBeasts$Reach", "ownTop", "[J", true)
  | 12 => ("HandBeasts$Reach", "ownLow", "[J", true)
  | 13 => ("HandBeasts$Reach", "ownThrownTop", "[J", true)
  | 14 => ("HandBeasts$Reach", "ownThrownLow", "[J", true)
  | 15 => ("HandBeasts$Reach", "turns", "[I", true)
  | _ => ("HandBeasts$Reach", "cells", "LHandBeasts$Cells;", true)
def tyX6 : Nat → FieldType := fun k => match k with
  | 0 => .boolean
  | 1 => .int
  | 2 => .array .int
  | 3 => .array .int
  | 4 => .array .byte
  | 5 => .array .long
  | 6 => .array .long
  | 7 => .array .long
  | 8 => .array .long
  | 9 => .array .int
  | 10 => .array .byte
  | 11 => .array .long
  | 12 => .array .long
  | 13 => .array .long
  | 14 => .array .long
  | 15 => .array .int
  | _ => .object "HandBeasts$Cells"
abbrev wsX60 : List Cond := u_ws RX6 TX6 17
theorem nmX6 : ∀ a, a < 17 → ∀ b, b < 17 → a ≠ b → (TX6 a).2.1 ≠ (TX6 b).2.1 := by decide +kernel
theorem tyX6_ok : ∀ k, k < 17 → parseFieldDescriptor (TX6 k).2.2.1 = some (tyX6 k) := by decide +kernel
abbrev cX6_init : ByteArray := prog_8_method_1_code
def yX6_init : MethodName := ⟨RX6, "<init>", "()V"⟩
abbrev cX6_learn : ByteArray := prog_8_method_2_code
def yX6_learn : MethodName := ⟨RX6, "learn", "(LHandBeasts$Hands;)V"⟩
abbrev cX6_learnFinger : ByteArray := prog_8_method_3_code
def yX6_learnFinger : MethodName := ⟨RX6, "learnFinger", "(LHandBeasts$Hands;I)V"⟩
abbrev cX6_combine : ByteArray := prog_8_method_4_code
def yX6_combine : MethodName := ⟨RX6, "combine", "(LHandBeasts$Hands;I)V"⟩
abbrev cX6_shade : ByteArray := prog_8_method_5_code
def yX6_shade : MethodName := ⟨RX6, "shade", "(LHandBeasts$Hands;LHandBeasts$Lamp;I)V"⟩
abbrev cX6_join : ByteArray := prog_8_method_6_code
def yX6_join : MethodName := ⟨RX6, "join", "([JI[JII)V"⟩
abbrev cX6_joinLoads : ByteArray := prog_8_method_7_code
def yX6_joinLoads : MethodName := ⟨RX6, "joinLoads", "(II)V"⟩
abbrev cX6_joinedLoad : ByteArray := prog_8_method_8_code
def yX6_joinedLoad : MethodName := ⟨RX6, "joinedLoad", "(BII)B"⟩
abbrev cX6_isBarred : ByteArray := prog_8_method_9_code
def yX6_isBarred : MethodName := ⟨RX6, "isBarred", "(I)Z"⟩
abbrev cX6_isHeld : ByteArray := prog_8_method_10_code
def yX6_isHeld : MethodName := ⟨RX6, "isHeld", "(II)Z"⟩
abbrev cX6_turnAt : ByteArray := prog_8_method_11_code
def yX6_turnAt : MethodName := ⟨RX6, "turnAt", "(LHandBeasts$Hands;II)I"⟩
abbrev cX6_placeOf : ByteArray := prog_8_method_12_code
def yX6_placeOf : MethodName := ⟨RX6, "placeOf", "(LHandBeasts$Hands;[I)I"⟩
abbrev cX6_offOf : ByteArray := prog_8_method_13_code
def yX6_offOf : MethodName := ⟨RX6, "offOf", "(LHandBeasts$Beast;I)I"⟩
abbrev cX6_nearestTurns : ByteArray := prog_8_method_14_code
def yX6_nearestTurns : MethodName := ⟨RX6, "nearestTurns", "(LHandBeasts$Hands;LHandBeasts$Beast;II)I"⟩
abbrev cX6_leastOff : ByteArray := prog_8_method_15_code
def yX6_leastOff : MethodName := ⟨RX6, "leastOff", "(LHandBeasts$Hands;LHandBeasts$Beast;II)I"⟩
abbrev cX6_joinDark : ByteArray := prog_8_method_16_code
def yX6_joinDark : MethodName := ⟨RX6, "joinDark", "(ILHandBeasts$Cells;)V"⟩
abbrev cX6_throwsJust : ByteArray := prog_8_method_17_code
def yX6_throwsJust : MethodName := ⟨RX6, "throwsJust", "(ILHandBeasts$Cells;I)Z"⟩
abbrev cX6_numberThrowing : ByteArray := prog_8_method_18_code
def yX6_numberThrowing : MethodName := ⟨RX6, "numberThrowing", "(LHandBeasts$Cells;I)I"⟩
abbrev cX6_alikeJoints : ByteArray := prog_8_method_19_code
def yX6_alikeJoints : MethodName := ⟨RX6, "alikeJoints", "(LHandBeasts$Hands;LHandBeasts$Cells;I)I"⟩
def RX7 : String := "HandBeasts$Reader"
def TX7 : u_T := fun k => match k with
  | 0 => ("HandBeasts$Reader", "from", "LHandBeasts$Row;", false)
  | 1 => ("HandBeasts$Reader", "into", "LHandBeasts$Hands;", false)
  | _ => ("HandBeasts$Reader", "place", "I", false)
def tyX7 : Nat → FieldType := fun k => match k with
  | 0 => .object "HandBeasts$Row"
  | 1 => .object "HandBeasts$Hands"
  | _ => .int
abbrev wsX70 : List Cond := u_ws RX7 TX7 3
theorem nmX7 : ∀ a, a < 3 → ∀ b, b < 3 → a ≠ b → (TX7 a).2.1 ≠ (TX7 b).2.1 := by decide +kernel
theorem tyX7_ok : ∀ k, k < 3 → parseFieldDescriptor (TX7 k).2.2.1 = some (tyX7 k) := by decide +kernel
abbrev cX7_init : ByteArray := prog_9_method_1_code
def yX7_init : MethodName := ⟨RX7, "<init>", "()V"⟩
abbrev cX7_read : ByteArray := prog_9_method_2_code
def yX7_read : MethodName := ⟨RX7, "read", "(LHandBeasts$Row;LHandBeasts$Hands;)I"⟩
abbrev cX7_readOne : ByteArray := prog_9_method_3_code
def yX7_readOne : MethodName := ⟨RX7, "readOne", "()Z"⟩
abbrev cX7_readHand : ByteArray := prog_9_method_4_code
def yX7_readHand : MethodName := ⟨RX7, "readHand", "()Z"⟩
abbrev cX7_readFinger : ByteArray := prog_9_method_5_code
def yX7_readFinger : MethodName := ⟨RX7, "readFinger", "()Z"⟩
abbrev cX7_readJoint : ByteArray := prog_9_method_6_code
def yX7_readJoint : MethodName := ⟨RX7, "readJoint", "()Z"⟩
abbrev cX7_isTurn : ByteArray := prog_9_method_7_code
def yX7_isTurn : MethodName := ⟨RX7, "isTurn", "(I)Z"⟩
abbrev cX7_figure : ByteArray := prog_9_method_8_code
def yX7_figure : MethodName := ⟨RX7, "figure", "()I"⟩
def RX8 : String := "HandBeasts$Row"
def TX8 : u_T := fun k => match k with
  | 0 => ("HandBeasts$Row", "size", "I", false)
  | _ => ("HandBeasts$Row", "places", "[I", true)
def tyX8 : Nat → FieldType := fun k => match k with
  | 0 => .int
  | _ => .array .int
abbrev wsX80 : List Cond := u_ws RX8 TX8 2
theorem nmX8 : ∀ a, a < 2 → ∀ b, b < 2 → a ≠ b → (TX8 a).2.1 ≠ (TX8 b).2.1 := by decide +kernel
theorem tyX8_ok : ∀ k, k < 2 → parseFieldDescriptor (TX8 k).2.2.1 = some (tyX8 k) := by decide +kernel
abbrev cX8_init : ByteArray := prog_10_method_1_code
def yX8_init : MethodName := ⟨RX8, "<init>", "(I)V"⟩
abbrev cX8_isThere : ByteArray := prog_10_method_2_code
def yX8_isThere : MethodName := ⟨RX8, "isThere", "()Z"⟩
abbrev cX8_renew : ByteArray := prog_10_method_4_code
def yX8_renew : MethodName := ⟨RX8, "renew", "(II)V"⟩
abbrev cX8_holds : ByteArray := prog_10_method_5_code
def yX8_holds : MethodName := ⟨RX8, "holds", "(I)Z"⟩
abbrev cX8_get : ByteArray := prog_10_method_7_code
def yX8_get : MethodName := ⟨RX8, "get", "(I)I"⟩
abbrev cX8_set : ByteArray := prog_10_method_8_code
def yX8_set : MethodName := ⟨RX8, "set", "(II)V"⟩
abbrev cX8_hasLines : ByteArray := prog_10_method_11_code
def yX8_hasLines : MethodName := ⟨RX8, "hasLines", "()Z"⟩
abbrev cX8_showCells : ByteArray := prog_10_method_12_code
def yX8_showCells : MethodName := ⟨RX8, "showCells", "(LHandBeasts$Cells;)V"⟩
abbrev cX8_showTo : ByteArray := prog_10_method_13_code
def yX8_showTo : MethodName := ⟨RX8, "showTo", "(LHandBeasts$Cells;)V"⟩
def RX9 : String := "HandBeasts$Told"
def TX9 : u_T := fun k => match k with
  | 0 => ("HandBeasts$Told", "answer", "I", false)
  | 1 => ("HandBeasts$Told", "over", "J", false)
  | 2 => ("HandBeasts$Told", "under", "J", false)
  | 3 => ("HandBeasts$Told", "latest", "I", false)
  | _ => ("HandBeasts$Told", "often", "[I", true)
def tyX9 : Nat → FieldType := fun k => match k with
  | 0 => .int
  | 1 => .long
  | 2 => .long
  | 3 => .int
  | _ => .array .int
abbrev wsX90 : List Cond := u_ws RX9 TX9 5
theorem nmX9 : ∀ a, a < 5 → ∀ b, b < 5 → a ≠ b → (TX9 a).2.1 ≠ (TX9 b).2.1 := by decide +kernel
theorem tyX9_ok : ∀ k, k < 5 → parseFieldDescriptor (TX9 k).2.2.1 = some (tyX9 k) := by decide +kernel
abbrev cX9_init : ByteArray := prog_11_method_1_code
def yX9_init : MethodName := ⟨RX9, "<init>", "()V"⟩
abbrev cX9_tell : ByteArray := prog_11_method_2_code
def yX9_tell : MethodName := ⟨RX9, "tell", "(I)I"⟩
abbrev cX9_find : ByteArray := prog_11_method_3_code
def yX9_find : MethodName := ⟨RX9, "find", "(I)I"⟩
def RX10 : String := "HandBeasts$Ways"
def TX10 : u_T := fun k => match k with
  | 0 => ("HandBeasts$Ways", "far", "[I", true)
  | 1 => ("HandBeasts$Ways", "queue", "[I", true)
  | 2 => ("HandBeasts$Ways", "queued", "I", false)
  | 3 => ("HandBeasts$Ways", "stops", "I", false)
  | 4 => ("HandBeasts$Ways", "stop", "[I", true)
  | 5 => ("HandBeasts$Ways", "stopPlace", "[I", true)
  | 6 => ("HandBeasts$Ways", "between", "[[I", true)
  | 7 => ("HandBeasts$Ways", "rest", "[I", true)
  | _ => ("HandBeasts$Ways", "inOrder", "[I", true)
def tyX10 : Nat → FieldType := fun k => match k with
  | 0 => .array .int
  | 1 => .array .int
  | 2 => .int
  | 3 => .int
  | 4 => .array .int
  | 5 => .array .int
  | 6 => .array (.array .int)
  | 7 => .array .int
  | _ => .array .int
abbrev wsX100 : List Cond := u_ws RX10 TX10 9
theorem nmX10 : ∀ a, a < 9 → ∀ b, b < 9 → a ≠ b → (TX10 a).2.1 ≠ (TX10 b).2.1 := by decide +kernel
theorem tyX10_ok : ∀ k, k < 9 → parseFieldDescriptor (TX10 k).2.2.1 = some (tyX10 k) := by decide +kernel
abbrev cX10_init : ByteArray := prog_12_method_1_code
def yX10_init : MethodName := ⟨RX10, "<init>", "()V"⟩
abbrev cX10_openHeld : ByteArray := prog_12_method_2_code
def yX10_openHeld : MethodName := ⟨RX10, "openHeld", "(LHandBeasts$Reach;I)V"⟩
abbrev cX10_closeSeen : ByteArray := prog_12_method_3_code
def yX10_closeSeen : MethodName := ⟨RX10, "closeSeen", "(LHandBeasts$Reach;LHandBeasts$Beast;III)V"⟩
abbrev cX10_length : ByteArray := prog_12_method_4_code
def yX10_length : MethodName := ⟨RX10, "length", "(LHandBeasts$Reach;LHandBeasts$Hands;II)I"⟩
abbrev cX10_farOf : ByteArray := prog_12_method_5_code
def yX10_farOf : MethodName := ⟨RX10, "farOf", "(I)I"⟩
abbrev cX10_walk : ByteArray := prog_12_method_6_code
def yX10_walk : MethodName := ⟨RX10, "walk", "(LHandBeasts$Reach;LHandBeasts$Hands;II)V"⟩
abbrev cX10_come : ByteArray := prog_12_method_7_code
def yX10_come : MethodName := ⟨RX10, "come", "(II)V"⟩
def RX11 : String := "HandBeasts"
def TX11 : u_T := fun k => match k with
  | 0 => ("HandBeasts", "told", "LHandBeasts$Told;", true)
  | 1 => ("HandBeasts", "rows", "[LHandBeasts$Row;", true)
  | 2 => ("HandBeasts", "texts", "[LHandBeasts$Row;", true)
  | 3 => ("HandBeasts", "reader", "LHandBeasts$Reader;", true)
  | 4 => ("HandBeasts", "hands", "LHandBeasts$Hands;", true)
  | 5 => ("HandBeasts", "draft", "LHandBeasts$Hands;", true)
  | 6 => ("HandBeasts", "light", "LHandBeasts$Lamp;", true)
  | 7 => ("HandBeasts", "otherLight", "LHandBeasts$Lamp;", true)
  | 8 => ("HandBeasts", "tension", "I", false)
  | 9 => ("HandBeasts", "poses", "[LHandBeasts$Pose;", true)
  | 10 => ("HandBeasts", "poseNumber", "I", false)
  | 11 => ("HandBeasts", "beasts", "[LHandBeasts$Beast;", true)
  | 12 => ("HandBeasts", "lookers", "LHandBeasts$Lookers;", true)
  | 13 => ("HandBeasts", "reach", "LHandBeasts$Reach;", true)
  | 14 => ("HandBeasts", "ways", "LHandBeasts$Ways;", true)
  | 15 => ("HandBeasts", "seen", "LHandBeasts$Cells;", true)
  | 16 => ("HandBeasts", "wanted", "LHandBeasts$Cells;", true)
  | _ => ("HandBeasts", "ever", "LHandBeasts$Cells;", true)
def tyX11 : Nat → FieldType := fun k => match k with
  | 0 => .object "HandBeasts$Told"
  | 1 => .array (.object "HandBeasts$Row")
  | 2 => .array (.object "HandBeasts$Row")
  | 3 => .object "HandBeasts$Reader"
  | 4 => .object "HandBeasts$Hands"
  | 5 => .object "HandBeasts$Hands"
  | 6 => .object "HandBeasts$Lamp"
  | 7 => .object "HandBeasts$Lamp"
  | 8 => .int
  | 9 => .array (.object "HandBeasts$Pose")
  | 10 => .int
  | 11 => .array (.object "HandBeasts$Beast")
  | 12 => .object "HandBeasts$Lookers"
  | 13 => .object "HandBeasts$Reach"
  | 14 => .object "HandBeasts$Ways"
  | 15 => .object "HandBeasts$Cells"
  | 16 => .object "HandBeasts$Cells"
  | _ => .object "HandBeasts$Cells"
abbrev wsX110 : List Cond := u_ws RX11 TX11 18
theorem nmX11 : ∀ a, a < 18 → ∀ b, b < 18 → a ≠ b → (TX11 a).2.1 ≠ (TX11 b).2.1 := by decide +kernel
theorem tyX11_ok : ∀ k, k < 18 → parseFieldDescriptor (TX11 k).2.2.1 = some (tyX11 k) := by decide +kernel
abbrev cX11_init : ByteArray := prog_1_method_1_code
def yX11_init : MethodName := ⟨RX11, "<init>", "()V"⟩
abbrev cX11_row : ByteArray := prog_1_method_2_code
def yX11_row : MethodName := ⟨RX11, "row", "(II)I"⟩
abbrev cX11_lay : ByteArray := prog_1_method_3_code
def yX11_lay : MethodName := ⟨RX11, "lay", "(III)I"⟩
abbrev cX11_at : ByteArray := prog_1_method_4_code
def yX11_at : MethodName := ⟨RX11, "at", "(II)I"⟩
abbrev cX11_text : ByteArray := prog_1_method_8_code
def yX11_text : MethodName := ⟨RX11, "text", "(II)I"⟩
abbrev cX11_put : ByteArray := prog_1_method_9_code
def yX11_put : MethodName := ⟨RX11, "put", "(III)I"⟩
abbrev cX11_fault : ByteArray := prog_1_method_10_code
def yX11_fault : MethodName := ⟨RX11, "fault", "(I)I"⟩
abbrev cX11_hands : ByteArray := prog_1_method_11_code
def yX11_hands : MethodName := ⟨RX11, "hands", "(I)I"⟩
abbrev cX11_strain : ByteArray := prog_1_method_14_code
def yX11_strain : MethodName := ⟨RX11, "strain", "(I)I"⟩
abbrev cX11_pose : ByteArray := prog_1_method_16_code
def yX11_pose : MethodName := ⟨RX11, "pose", "(II)I"⟩
abbrev cX11_about : ByteArray := prog_1_method_19_code
def yX11_about : MethodName := ⟨RX11, "about", "(II)I"⟩
abbrev cX11_shape : ByteArray := prog_1_method_22_code
def yX11_shape : MethodName := ⟨RX11, "shape", "(II)I"⟩
abbrev cX11_thrown : ByteArray := prog_1_method_23_code
def yX11_thrown : MethodName := ⟨RX11, "thrown", "(II)I"⟩
abbrev cX11_beast : ByteArray := prog_1_method_24_code
def yX11_beast : MethodName := ⟨RX11, "beast", "(IIII)I"⟩
abbrev cX11_off : ByteArray := prog_1_method_25_code
def yX11_off : MethodName := ⟨RX11, "off", "(II)I"⟩
abbrev cX11_many : ByteArray := prog_1_method_26_code
def yX11_many : MethodName := ⟨RX11, "many", "()I"⟩
abbrev cX11_nearest : ByteArray := prog_1_method_27_code
def yX11_nearest : MethodName := ⟨RX11, "nearest", "(II)I"⟩
abbrev cX11_never : ByteArray := prog_1_method_28_code
def yX11_never : MethodName := ⟨RX11, "never", "(II)I"⟩
abbrev cX11_sets : ByteArray := prog_1_method_29_code
def yX11_sets : MethodName := ⟨RX11, "sets", "(I)I"⟩
abbrev cX11_way : ByteArray := prog_1_method_30_code
def yX11_way : MethodName := ⟨RX11, "way", "(II)I"⟩
abbrev cX11_unseen : ByteArray := prog_1_method_31_code
def yX11_unseen : MethodName := ⟨RX11, "unseen", "(IIII)I"⟩
abbrev cX11_where : ByteArray := prog_1_method_32_code
def yX11_where : MethodName := ⟨RX11, "where", "(II)I"⟩
abbrev cX11_picture : ByteArray := prog_1_method_33_code
def yX11_picture : MethodName := ⟨RX11, "picture", "(I)I"⟩
abbrev cX11_stiff : ByteArray := prog_1_method_36_code
def yX11_stiff : MethodName := ⟨RX11, "stiff", "(II)I"⟩
abbrev cX11_asked : ByteArray := prog_1_method_44_code
def yX11_asked : MethodName := ⟨RX11, "asked", "()I"⟩
abbrev cX11_isRow : ByteArray := prog_1_method_51_code
def yX11_isRow : MethodName := ⟨RX11, "isRow", "(I)Z"⟩
abbrev cX11_isText : ByteArray := prog_1_method_52_code
def yX11_isText : MethodName := ⟨RX11, "isText", "(I)Z"⟩
abbrev cX11_isBeast : ByteArray := prog_1_method_53_code
def yX11_isBeast : MethodName := ⟨RX11, "isBeast", "(I)Z"⟩
abbrev cX11_isJoint : ByteArray := prog_1_method_56_code
def yX11_isJoint : MethodName := ⟨RX11, "isJoint", "(I)Z"⟩
abbrev cX11_isPose : ByteArray := prog_1_method_57_code
def yX11_isPose : MethodName := ⟨RX11, "isPose", "(I)Z"⟩
abbrev cX11_shadowFinding : ByteArray := prog_1_method_59_code
def yX11_shadowFinding : MethodName := ⟨RX11, "shadowFinding", "(LHandBeasts$Row;LHandBeasts$Row;)I"⟩
abbrev cX11_dropPoses : ByteArray := prog_1_method_60_code
def yX11_dropPoses : MethodName := ⟨RX11, "dropPoses", "(I)V"⟩
abbrev cX11_placeOf : ByteArray := prog_1_method_61_code
def yX11_placeOf : MethodName := ⟨RX11, "placeOf", "(I)I"⟩
abbrev cX11_numberThrowingBy : ByteArray := prog_1_method_62_code
def yX11_numberThrowingBy : MethodName := ⟨RX11, "numberThrowingBy", "(LHandBeasts$Lamp;)I"⟩
def RX12 : String := "HandBeastsModel"
def TX12 : u_T := fun k => match k with
  | _ => ("", "", "", false)
def tyX12 : Nat → FieldType := fun k => match k with
  | _ => .int
abbrev wsX120 : List Cond := u_ws RX12 TX12 0
theorem nmX12 : ∀ a, a < 0 → ∀ b, b < 0 → a ≠ b → (TX12 a).2.1 ≠ (TX12 b).2.1 := by decide +kernel
theorem tyX12_ok : ∀ k, k < 0 → parseFieldDescriptor (TX12 k).2.2.1 = some (tyX12 k) := by decide +kernel
def RJ6 : String := "java/lang/Integer"
def TJ6 : u_T := fun k => match k with
  | _ => ("", "", "", false)
def tyJ6 : Nat → FieldType := fun k => match k with
  | _ => .int
abbrev wsJ60 : List Cond := u_ws RJ6 TJ6 0
theorem nmJ6 : ∀ a, a < 0 → ∀ b, b < 0 → a ≠ b → (TJ6 a).2.1 ≠ (TJ6 b).2.1 := by decide +kernel
theorem tyJ6_ok : ∀ k, k < 0 → parseFieldDescriptor (TJ6 k).2.2.1 = some (tyJ6 k) := by decide +kernel
abbrev cJ6_numberOfTrailingZeros_0f7a4 : ByteArray := prog_15_method_48_code
def yJ6_numberOfTrailingZeros_0f7a4 : MethodName := ⟨RJ6, "numberOfTrailingZeros", "(I)I"⟩
def RJ13 : String := "java/lang/Long"
def TJ13 : u_T := fun k => match k with
  | _ => ("", "", "", false)
def tyJ13 : Nat → FieldType := fun k => match k with
  | _ => .int
abbrev wsJ130 : List Cond := u_ws RJ13 TJ13 0
theorem nmJ13 : ∀ a, a < 0 → ∀ b, b < 0 → a ≠ b → (TJ13 a).2.1 ≠ (TJ13 b).2.1 := by decide +kernel
theorem tyJ13_ok : ∀ k, k < 0 → parseFieldDescriptor (TJ13 k).2.2.1 = some (tyJ13 k) := by decide +kernel
abbrev cJ13_numberOfTrailingZeros_95d88 : ByteArray := prog_16_method_49_code
def yJ13_numberOfTrailingZeros_95d88 : MethodName := ⟨RJ13, "numberOfTrailingZeros", "(J)I"⟩
abbrev cJ13_bitCount_95d88 : ByteArray := prog_16_method_50_code
def yJ13_bitCount_95d88 : MethodName := ⟨RJ13, "bitCount", "(J)I"⟩
def RJ9 : String := "java/lang/Math"
def TJ9 : u_T := fun k => match k with
  | _ => ("", "", "", false)
def tyJ9 : Nat → FieldType := fun k => match k with
  | _ => .int
abbrev wsJ90 : List Cond := u_ws RJ9 TJ9 0
theorem nmJ9 : ∀ a, a < 0 → ∀ b, b < 0 → a ≠ b → (TJ9 a).2.1 ≠ (TJ9 b).2.1 := by decide +kernel
theorem tyJ9_ok : ∀ k, k < 0 → parseFieldDescriptor (TJ9 k).2.2.1 = some (tyJ9 k) := by decide +kernel
abbrev cJ9_abs_0f7a4 : ByteArray := prog_17_method_59_code
def yJ9_abs_0f7a4 : MethodName := ⟨RJ9, "abs", "(I)I"⟩
abbrev cJ9_max_7cf53 : ByteArray := prog_17_method_65_code
def yJ9_max_7cf53 : MethodName := ⟨RJ9, "max", "(II)I"⟩
abbrev cJ9_min_7cf53 : ByteArray := prog_17_method_69_code
def yJ9_min_7cf53 : MethodName := ⟨RJ9, "min", "(II)I"⟩
def RL : String := "HandBeastsLaw"
abbrev cL_cell : ByteArray := method_2_code
def yL_cell : MethodName := ⟨RL, "cell", "([II)I"⟩
abbrev cL_put : ByteArray := method_3_code
def yL_put : MethodName := ⟨RL, "put", "(LHandBeasts;II)I"⟩
abbrev cL_number : ByteArray := method_4_code
def yL_number : MethodName := ⟨RL, "number", "(LHandBeasts;II)I"⟩
abbrev cL_numbers : ByteArray := method_5_code
def yL_numbers : MethodName := ⟨RL, "numbers", "([III[I)V"⟩
abbrev cL_hands : ByteArray := method_6_code
def yL_hands : MethodName := ⟨RL, "hands", "(LHandBeasts;[I)Z"⟩
abbrev cL_all : ByteArray := method_12_code
def yL_all : MethodName := ⟨RL, "all", "([I)I"⟩
abbrev cL_turns : ByteArray := method_13_code
def yL_turns : MethodName := ⟨RL, "turns", "([II[I)V"⟩
abbrev cL_lay : ByteArray := method_14_code
def yL_lay : MethodName := ⟨RL, "lay", "(LHandBeasts;I[II)Z"⟩
abbrev cL_tells : ByteArray := method_20_code
def yL_tells : MethodName := ⟨RL, "tells", "(LHandBeasts;I)I"⟩
abbrev cL_law : ByteArray := code
def yL_law : MethodName := ⟨RL, "law", "([I)Z"⟩
abbrev cL_glass : ByteArray := method_22_code
def yL_glass : MethodName := ⟨RL, "glass", "(I)I"⟩
abbrev vwCl : List vw_C := [(RX0, TX0, 4), (RX1, TX1, 2), (RX2, TX2, 11), (RX3, TX3, 3), (RX4, TX4, 11), (RX5, TX5, 8), (RX6, TX6, 17), (RX7, TX7, 3), (RX8, TX8, 2), (RX9, TX9, 5), (RX10, TX10, 9), (RX11, TX11, 18)]
