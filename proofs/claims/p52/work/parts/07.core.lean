/-! worlds of numbered cells: what is in them are three maps, of ints, of longs, of references; the shapes stand in a table -/
abbrev zW : Type := (Nat → Nat → Int32) × (Nat → Nat → Int64) × (Nat → Nat → Option Nat)
/-- launch, classes, array classes, the first cell's address, addresses outside -/
abbrev zG : Type := Launch × va_G × (Nat → ClassId) × Nat × (UInt32 → Nat)
def zB (G : zG) : Nat := G.2.2.2.1
def zWd (G : zG) : Nat := G.2.2.2.2 9
/-- the cells that are its own -/
def zA (G : zG) : Nat → Prop := fun q => zB G ≤ q ∧ q < zB G + zWd G
def zmv (G : zG) (v : Value) : Value := match v with
  | .ref k => .ref (zB G + k)
  | .float u => .ref (G.2.2.2.2 u)
  | v => v
def zkT : List (Nat × Nat × Nat) := [(0, 11, 0), (0, 9, 0), (1, 0, 6), (3, 4, 6), (0, 8, 0), (1, 0, 40), (0, 8, 0), (1, 0, 40), (0, 8, 0), (1, 0, 40), (0, 8, 0), (1, 0, 40), (0, 8, 0), (1, 0, 40), (0, 8, 0), (1, 0, 40), (3, 4, 4), (0, 8, 0), (1, 0, 80), (0, 8, 0), (1, 0, 80), (0, 8, 0), (1, 0, 80), (0, 8, 0), (1, 0, 80), (0, 7, 0), (0, 2, 0), (1, 0, 2), (1, 0, 6), (1, 0, 6), (1, 0, 6), (1, 0, 6), (1, 0, 6), (1, 0, 6), (1, 0, 6), (0, 2, 0), (1, 0, 2), (1, 0, 6), (1, 0, 6), (1, 0, 6), (1, 0, 6), (1, 0, 6), (1, 0, 6), (1, 0, 6), (0, 3, 0), (0, 3, 0), (3, 5, 12), (0, 5, 0), (1, 0, 6), (0, 1, 0), (0, 1, 0), (0, 5, 0), (1, 0, 6), (0, 1, 0), (0, 1, 0), (0, 5, 0), (1, 0, 6), (0, 1, 0), (0, 1, 0), (0, 5, 0), (1, 0, 6), (0, 1, 0), (0, 1, 0), (0, 5, 0), (1, 0, 6), (0, 1, 0), (0, 1, 0), (0, 5, 0), (1, 0, 6), (0, 1, 0), (0, 1, 0), (0, 5, 0), (1, 0, 6), (0, 1, 0), (0, 1, 0), (0, 5, 0), (1, 0, 6), (0, 1, 0), (0, 1, 0), (0, 5, 0), (1, 0, 6), (0, 1, 0), (0, 1, 0), (0, 5, 0), (1, 0, 6), (0, 1, 0), (0, 1, 0), (0, 5, 0), (1, 0, 6), (0, 1, 0), (0, 1, 0), (0, 5, 0), (1, 0, 6), (0, 1, 0), (0, 1, 0), (3, 6, 6), (0, 0, 0), (0, 1, 0), (0, 1, 0), (0, 0, 0), (0, 1, 0), (0, 1, 0), (0, 0, 0), (0, 1, 0), (0, 1, 0), (0, 0, 0), (0, 1, 0), (0, 1, 0), (0, 0, 0), (0, 1, 0), (0, 1, 0), (0, 0, 0), (0, 1, 0), (0, 1, 0), (0, 4, 0), (3, 7, 8), (1, 0, 3), (1, 0, 3), (1, 0, 3), (1, 0, 3), (1, 0, 3), (1, 0, 3), (1, 0, 3), (1, 0, 3), (1, 0, 24), (1, 0, 24), (1, 0, 24), (1, 0, 6), (1, 0, 6), (1, 0, 6), (1, 0, 27), (0, 6, 0), (1, 0, 6), (1, 0, 6), (1, 1, 4096), (2, 3, 4096), (2, 3, 4096), (2, 3, 4096), (2, 3, 4096), (1, 0, 6), (1, 1, 750), (2, 3, 750), (2, 3, 750), (2, 3, 125), (2, 3, 125), (1, 0, 6), (0, 1, 0), (0, 10, 0), (1, 0, 4096), (1, 0, 4096), (1, 0, 8), (1, 0, 8), (3, 7, 8), (1, 0, 8), (1, 0, 8), (1, 0, 8), (1, 0, 8), (1, 0, 8), (1, 0, 8), (1, 0, 8), (1, 0, 8), (1, 0, 2048), (1, 0, 8), (0, 1, 0), (0, 1, 0), (0, 1, 0), (0, 11, 0), (0, 9, 0), (1, 0, 6), (3, 4, 6), (0, 8, 0), (1, 0, 40), (0, 8, 0), (1, 0, 40), (0, 8, 0), (1, 0, 40), (0, 8, 0), (1, 0, 40), (0, 8, 0), (1, 0, 40), (0, 8, 0), (1, 0, 40), (3, 4, 4), (0, 8, 0), (1, 0, 80), (0, 8, 0), (1, 0, 80), (0, 8, 0), (1, 0, 80), (0, 8, 0), (1, 0, 80), (0, 7, 0), (0, 2, 0), (1, 0, 2), (1, 0, 6), (1, 0, 6), (1, 0, 6), (1, 0, 6), (1, 0, 6), (1, 0, 6), (1, 0, 6), (0, 2, 0), (1, 0, 2), (1, 0, 6), (1, 0, 6), (1, 0, 6), (1, 0, 6), (1, 0, 6), (1, 0, 6), (1, 0, 6), (0, 3, 0), (0, 3, 0), (3, 5, 12), (0, 5, 0), (1, 0, 6), (0, 1, 0), (0, 1, 0), (0, 5, 0), (1, 0, 6), (0, 1, 0), (0, 1, 0), (0, 5, 0), (1, 0, 6), (0, 1, 0), (0, 1, 0), (0, 5, 0), (1, 0, 6), (0, 1, 0), (0, 1, 0), (0, 5, 0), (1, 0, 6), (0, 1, 0), (0, 1, 0), (0, 5, 0), (1, 0, 6), (0, 1, 0), (0, 1, 0), (0, 5, 0), (1, 0, 6), (0, 1, 0), (0, 1, 0), (0, 5, 0), (1, 0, 6), (0, 1, 0), (0, 1, 0), (0, 5, 0), (1, 0, 6), (0, 1, 0), (0, 1, 0), (0, 5, 0), (1, 0, 6), (0, 1, 0), (0, 1, 0), (0, 5, 0), (1, 0, 6), (0, 1, 0), (0, 1, 0), (0, 5, 0), (1, 0, 6), (0, 1, 0), (0, 1, 0), (3, 6, 6), (0, 0, 0), (0, 1, 0), (0, 1, 0), (0, 0, 0), (0, 1, 0), (0, 1, 0), (0, 0, 0), (0, 1, 0), (0, 1, 0), (0, 0, 0), (0, 1, 0), (0, 1, 0), (0, 0, 0), (0, 1, 0), (0, 1, 0), (0, 0, 0), (0, 1, 0), (0, 1, 0), (0, 4, 0), (3, 7, 8), (1, 0, 3), (1, 0, 3), (1, 0, 3), (1, 0, 3), (1, 0, 3), (1, 0, 3), (1, 0, 3), (1, 0, 3), (1, 0, 24), (1, 0, 24), (1, 0, 24), (1, 0, 6), (1, 0, 6), (1, 0, 6), (1, 0, 27), (0, 6, 0), (1, 0, 6), (1, 0, 6), (1, 1, 4096), (2, 3, 4096), (2, 3, 4096), (2, 3, 4096), (2, 3, 4096), (1, 0, 6), (1, 1, 750), (2, 3, 750), (2, 3, 750), (2, 3, 125), (2, 3, 125), (1, 0, 6), (0, 1, 0), (0, 10, 0), (1, 0, 4096), (1, 0, 4096), (1, 0, 8), (1, 0, 8), (3, 7, 8), (1, 0, 8), (1, 0, 8), (1, 0, 8), (1, 0, 8), (1, 0, 8), (1, 0, 8), (1, 0, 8), (1, 0, 8), (1, 0, 2048), (1, 0, 8), (0, 1, 0), (0, 1, 0), (0, 1, 0), (1, 0, 64), (1, 0, 64), (1, 0, 64), (1, 0, 64), (1, 0, 16), (1, 0, 16), (1, 0, 16), (1, 0, 16)]
def zN : Nat := 166
def zsh (k : Nat) : Nat × Nat × Nat := zkT.getD k (9, 0, 0)
def zfkT : List (List Nat) := [[2, 2, 0, 0], [1, 1], [0, 0, 0, 2, 2, 2, 2, 2, 2, 2, 2], [0, 0, 0], [0, 2, 0, 2, 2, 2, 2, 2, 2, 0, 2], [2, 2, 2, 0, 0, 0, 0, 0], [0, 0, 2, 2, 2, 2, 2, 2, 2, 2, 2, 2, 2, 2, 2, 2, 2], [2, 2, 0], [0, 2], [0, 1, 1, 0, 2], [2, 2, 0, 0, 2, 2, 2, 2, 2], [2, 2, 2, 2, 2, 2, 2, 2, 0, 2, 0, 2, 2, 2, 2, 2, 2, 2], []]
def zfk (c : Nat) : List Nat := zfkT.getD c []
def zfv (G : zG) (w : zW) (k : Nat) (j kd : Nat) : Value := match kd with
  | 0 => .int (w.1 k j)
  | 1 => .long (w.2.1 k j)
  | _ => va_rf ((w.2.2 k j).map (zB G + ·))
def zfs (G : zG) (w : zW) (k c : Nat) : List Value := (zfk c).mapIdx (zfv G w k)
def zcell (G : zG) (w : zW) (k : Nat) : va_E := match (zsh k).1 with
  | 0 => .inr ((zsh k).2.1, zfs G w k (zsh k).2.1)
  | 1 => .inl (G.2.2.1 (zsh k).2.1, (zsh k).2.2, .inl (w.1 k))
  | 2 => .inl (G.2.2.1 (zsh k).2.1, (zsh k).2.2, .inr (.inl (w.2.1 k)))
  | _ => .inl (G.2.2.1 (zsh k).2.1, (zsh k).2.2, .inr (.inr (.inr (.inr (fun j => (w.2.2 k j).map (zB G + ·))))))
def zws (G : zG) (n : Nat) (w : zW) : va_W := (List.range n).map (fun k => (zB G + k, zcell G w k))
def zsi (w : zW) (k j : Nat) (x : Int32) : zW := (fun a i => if a = k ∧ i = j then x else w.1 a i, w.2.1, w.2.2)
def zsl (w : zW) (k j : Nat) (x : Int64) : zW := (w.1, fun a i => if a = k ∧ i = j then x else w.2.1 a i, w.2.2)
def zsr (w : zW) (k j : Nat) (x : Option Nat) : zW := (w.1, w.2.1, fun a i => if a = k ∧ i = j then x else w.2.2 a i)
def zNst : List (String × Nat × MethodName × String) := [("HandBeasts", 11, ⟨"HandBeasts$Told", "<init>", "()V"⟩, "HandBeasts"), ("HandBeasts", 30, ⟨"HandBeasts$Reader", "<init>", "()V"⟩, "HandBeasts"), ("HandBeasts", 37, ⟨"HandBeasts$Hands", "<init>", "()V"⟩, "HandBeasts"), ("HandBeasts", 47, ⟨"HandBeasts$Lamp", "<init>", "()V"⟩, "HandBeasts"), ("HandBeasts", 65, ⟨"HandBeasts$Pose", "<init>", "()V"⟩, "HandBeasts"), ("HandBeasts$Pose", 17, ⟨"HandBeasts$Cells", "<init>", "()V"⟩, "HandBeasts"), ("HandBeasts", 72, ⟨"HandBeasts$Beast", "<init>", "()V"⟩, "HandBeasts"), ("HandBeasts$Beast", 9, ⟨"HandBeasts$Cells", "<init>", "()V"⟩, "HandBeasts"), ("HandBeasts", 75, ⟨"HandBeasts$Lookers", "<init>", "()V"⟩, "HandBeasts"), ("HandBeasts", 82, ⟨"HandBeasts$Reach", "<init>", "()V"⟩, "HandBeasts"), ("HandBeasts$Reach", 62, ⟨"HandBeasts$Cells", "<init>", "()V"⟩, "HandBeasts"), ("HandBeasts", 89, ⟨"HandBeasts$Ways", "<init>", "()V"⟩, "HandBeasts"), ("HandBeasts", 96, ⟨"HandBeasts$Cells", "<init>", "()V"⟩, "HandBeasts")]
def zty (cA : Nat → ClassId) : List (ClassId × FieldType) := [(cA 0, .int), (cA 1, .byte), (cA 2, .int), (cA 3, .long), (cA 4, .object RX8), (cA 5, .object RX5), (cA 6, .object RX0), (cA 7, .array .int)]
def zTB : List Cond := lw_tbl.filter goodWord
def va_AOA (ty : FieldType) (U : State) : Prop := (Cond.arrayOver (.array ty)).before #[] U = true
theorem va_AOA.use {ty : FieldType} {A : Array Value} {U : State} (h : va_AOA ty U) : (Cond.arrayOver (.array ty)).before A U = true := h
theorem zin {w : Cond} (h : w ∈ lw_tbl) (g : goodWord w = true) : w ∈ zTB := List.mem_filter.mpr ⟨h, g⟩
theorem zgood : GoodIn zTB zTB := fun w h => ⟨h, good_of_word (List.mem_filter.mp h).2⟩
theorem zgood' {w : Cond} (h : w ∈ zTB) : (w.onTables && w.keeps) = true ∨ ∃ ty, w = .arrayClass ty := good_of_word (List.mem_filter.mp h).2
/-! cells, read and written -/
theorem zc0 {G : zG} {w : zW} {k c n : Nat} (h : zsh k = (0, c, n)) : zcell G w k = .inr (c, zfs G w k c) := by simp [zcell, h]
theorem zc1 {G : zG} {w : zW} {k t n : Nat} (h : zsh k = (1, t, n)) : zcell G w k = .inl (G.2.2.1 t, n, .inl (w.1 k)) := by simp [zcell, h]
theorem zc2 {G : zG} {w : zW} {k t n : Nat} (h : zsh k = (2, t, n)) : zcell G w k = .inl (G.2.2.1 t, n, .inr (.inl (w.2.1 k))) := by simp [zcell, h]
theorem zc3 {G : zG} {w : zW} {k t n : Nat} (h : zsh k = (3, t, n)) : zcell G w k = .inl (G.2.2.1 t, n, .inr (.inr (.inr (.inr (fun j => (w.2.2 k j).map (zB G + ·)))))) := by simp [zcell, h]
theorem zws_at {G : zG} {n : Nat} {w : zW} {k : Nat} (h : k < n) : (zws G n w)[k]? = some (zB G + k, zcell G w k) := by
  simp [zws, List.getElem?_map, List.getElem?_range h]
theorem zws_len {G : zG} {n : Nat} {w : zW} : (zws G n w).length = n := by simp [zws]
theorem zws_D {G : zG} {n : Nat} {w : zW} (hn : n ≤ zWd G) : va_D (zA G) (zws G n w) := by
  have key : ∀ (k : Nat) (q : Nat × va_E), (zws G n w)[k]? = some q → q.1 = zB G + k := by
    intro k q hq
    have hl : k < n := by
      have := (List.getElem?_eq_some_iff.mp hq).1
      rwa [zws_len] at this
    rw [zws_at hl] at hq
    cases hq
    rfl
  refine ⟨fun i j p q hp hq h => ?_, fun k q hq => ?_⟩
  · rw [key i p hp, key j q hq] at h
    omega
  · rw [key k q hq]
    have hl : k < n := by
      have := (List.getElem?_eq_some_iff.mp hq).1
      rwa [zws_len] at this
    exact ⟨Nat.le_add_right _ _, by omega⟩
theorem zws_set {G : zG} {n : Nat} {w w' : zW} {k : Nat} {e : va_E} (he : zcell G w' k = e) (ho : ∀ a, a ≠ k → zcell G w' a = zcell G w a) : (zws G n w).set k (zB G + k, e) = zws G n w' := by
  apply List.ext_getElem?
  intro i
  rw [List.getElem?_set]
  by_cases hi : k = i
  · subst hi
    rw [if_pos rfl, zws_len]
    by_cases hl : k < n
    · rw [if_pos hl, zws_at hl, he]
    · rw [if_neg hl]
      symm
      rw [List.getElem?_eq_none_iff, zws_len]
      omega
  · rw [if_neg hi]
    by_cases hl : i < n
    · rw [zws_at hl, zws_at hl, ho i (fun h => hi h.symm)]
    · have h1 : (zws G n w)[i]? = none := by rw [List.getElem?_eq_none_iff, zws_len]; omega
      have h2 : (zws G n w')[i]? = none := by rw [List.getElem?_eq_none_iff, zws_len]; omega
      rw [h1, h2]
theorem zws_app {G : zG} {n : Nat} {w : zW} {e : va_E} (he : zcell G w n = e) : zws G n w ++ [(zB G + n, e)] = zws G (n + 1) w := by
  simp [zws, List.range_succ, he]
theorem zfs_at {G : zG} {w : zW} {k c j kd : Nat} (h : (zfk c)[j]? = some kd) : (zfs G w k c)[j]? = some (zfv G w k j kd) := by
  simp [zfs, List.getElem?_mapIdx, h]
theorem zfs_len {G : zG} {w : zW} {k c : Nat} : (zfs G w k c).length = (zfk c).length := by simp [zfs]
theorem zfs_set {G : zG} {w w' : zW} {k c j kd : Nat} {v : Value} (h : (zfk c)[j]? = some kd) (hv : zfv G w' k j kd = v) (ho : ∀ i kd', i ≠ j → zfv G w' k i kd' = zfv G w k i kd') : (zfs G w k c).set j v = zfs G w' k c := by
  apply List.ext_getElem?
  intro i
  rw [List.getElem?_set]
  by_cases hi : j = i
  · subst hi
    have hl := (List.getElem?_eq_some_iff.mp h).1
    rw [if_pos rfl, zfs_len, if_pos hl, zfs_at h, hv]
  · rw [if_neg hi]
    simp only [zfs, List.getElem?_mapIdx]
    cases (zfk c)[i]? with
    | none => rfl
    | some kd' => simp [ho i kd' (fun h => hi h.symm)]
theorem zcell_eq {G : zG} {w w' : zW} {a : Nat} (h1 : w'.1 a = w.1 a) (h2 : w'.2.1 a = w.2.1 a) (h3 : w'.2.2 a = w.2.2 a) : zcell G w' a = zcell G w a := by
  have e1 : zfv G w' a = zfv G w a := by funext i kd; simp [zfv, h1, h2, h3]
  unfold zcell zfs
  rw [e1, h1, h2, h3]
theorem zo_i {G : zG} {w : zW} {k j : Nat} {x : Int32} : ∀ a, a ≠ k → zcell G (zsi w k j x) a = zcell G w a := by
  intro a ha
  have e1 : zfv G (zsi w k j x) a = zfv G w a := by funext i kd; simp [zfv, zsi, ha]
  have e2 : (zsi w k j x).1 a = w.1 a := by funext i; simp [zsi, ha]
  unfold zcell zfs
  rw [e1, e2]
  rfl
theorem zo_l {G : zG} {w : zW} {k j : Nat} {x : Int64} : ∀ a, a ≠ k → zcell G (zsl w k j x) a = zcell G w a := by
  intro a ha
  have e1 : zfv G (zsl w k j x) a = zfv G w a := by funext i kd; simp [zfv, zsl, ha]
  have e2 : (zsl w k j x).2.1 a = w.2.1 a := by funext i; simp [zsl, ha]
  unfold zcell zfs
  rw [e1, e2]
  rfl
theorem zo_r {G : zG} {w : zW} {k j : Nat} {x : Option Nat} : ∀ a, a ≠ k → zcell G (zsr w k j x) a = zcell G w a := by
  intro a ha
  have e1 : zfv G (zsr w k j x) a = zfv G w a := by funext i kd; simp [zfv, zsr, ha]
  have e2 : (zsr w k j x).2.2 a = w.2.2 a := by funext i; simp [zsr, ha]
  unfold zcell zfs
  rw [e1, e2]
  rfl
theorem zF_i {G : zG} {w : zW} {k c j n : Nat} {x : Int32} (h : zsh k = (0, c, n)) (hf : (zfk c)[j]? = some 0) : zcell G (zsi w k j x) k = .inr (c, (zfs G w k c).set j (.int x)) := by
  rw [zc0 h, zfs_set hf (w' := zsi w k j x) (by simp [zfv, zsi]) (fun i kd hi => by simp [zfv, zsi, hi])]
theorem zF_l {G : zG} {w : zW} {k c j n : Nat} {x : Int64} (h : zsh k = (0, c, n)) (hf : (zfk c)[j]? = some 1) : zcell G (zsl w k j x) k = .inr (c, (zfs G w k c).set j (.long x)) := by
  rw [zc0 h, zfs_set hf (w' := zsl w k j x) (by simp [zfv, zsl]) (fun i kd hi => by simp [zfv, zsl, hi])]
theorem zF_r {G : zG} {w : zW} {k c j n : Nat} {x : Option Nat} (h : zsh k = (0, c, n)) (hf : (zfk c)[j]? = some 2) : zcell G (zsr w k j x) k = .inr (c, (zfs G w k c).set j (va_rf (x.map (zB G + ·)))) := by
  rw [zc0 h, zfs_set hf (w' := zsr w k j x) (by simp [zfv, zsr]) (fun i kd hi => by simp [zfv, zsr, hi])]
theorem zA_i {G : zG} {w : zW} {k t j n : Nat} {x : Int32} (h : zsh k = (1, t, n)) : zcell G (zsi w k j x) k = .inl (G.2.2.1 t, n, .inl (upd (w.1 k) j x)) := by
  rw [zc1 h]
  congr 4
  funext i
  simp [zsi, upd]
theorem zA_l {G : zG} {w : zW} {k t j n : Nat} {x : Int64} (h : zsh k = (2, t, n)) : zcell G (zsl w k j x) k = .inl (G.2.2.1 t, n, .inr (.inl (vp_updL (w.2.1 k) j x))) := by
  rw [zc2 h]
  congr 5
  funext i
  simp [zsl, vp_updL]
/-! what holds of the machine beside the cells -/
def zsX (j : Nat) : Int32 := ([0, 1, 1, 1, 0, -1, -1, -1] : List Int32).getD j 0
def zsY (j : Nat) : Int32 := ([-1, -1, 0, 1, 1, 1, 0, -1] : List Int32).getD j 0
/-- which array classes of references stand -/
def zAO (U : State) : Prop := (va_AO RX8 U ∧ va_AO RX5 U ∧ va_AO RX0 U) ∧ va_AOA .int U
theorem zAOA_m {ty : FieldType} {u U : State} (hvm : u.vm.Alike U.vm) (h : va_AOA ty u) : va_AOA ty U := by
  first | exact arrayOver_alikeB hvm h | exact Stand.arrayOver_alikeB hvm h | exact Jvm.Free.LawGrid.arrayOver_alikeB hvm h
theorem zAO.moved {u U : State} (hvm : u.vm.Alike U.vm) (h : zAO u) : zAO U := ⟨⟨h.1.1.moved hvm, h.1.2.1.moved hvm, h.1.2.2.moved hvm⟩, zAOA_m hvm h.2⟩
def zSt (G : zG) (U : State) : Prop :=
  (va_Z "HandBeasts$Hands" "STEP_X" "[I" (.ref (G.2.2.2.2 1)) (zA G) U U.heap ∧ va_T .int (G.2.2.2.2 1) 8 (fun j => .int (zsX j)) (zA G) U U.heap) ∧
  (va_Z "HandBeasts$Hands" "STEP_Y" "[I" (.ref (G.2.2.2.2 2)) (zA G) U U.heap ∧ va_T .int (G.2.2.2.2 2) 8 (fun j => .int (zsY j)) (zA G) U U.heap) ∧
  (∀ q ∈ zNst, va_Nw (.methodLinkNest q.1 q.2.1 q.2.2.1 q.2.2.2) U) ∧ zAO U
/-- the script stands, outside -/
def zScX (G : zG) (U : State) : Prop := ∃ (L : Nat) (xs : Nat → Int32), L ≤ 260 ∧ va_X (G.2.2.2.2 0) L xs U U.heap ∧ G.2.2.2.2 0 < U.heap.size ∧ ¬ zA G (G.2.2.2.2 0)
def zK (G : zG) (U : State) : Prop := va_K G.2.1 vwCl (zty G.2.2.1) U ∧ zSt G U ∧ zB G ≤ U.heap.size ∧ zN ≤ zWd G ∧ zScX G U
theorem zScX.go {G : zG} {s U : State} {H : Heap} {locs : List Loc} (h : zScX G s) (hS : va_S (zA G) s.heap H locs) (hU : U.heap = H) (hW : s.WarmedH U.vm) : zScX G U := by
  obtain ⟨L, xs, h1, h2, h3, h4⟩ := h
  subst hU
  exact ⟨L, xs, h1, (h2.moved hW.alike).kept (hS.2.1 _ h3 h4), Nat.lt_of_lt_of_le h3 hS.1, h4⟩
theorem zSt.go {G : zG} {s U : State} {H : Heap} {locs : List Loc} (h : zSt G s) (hS : va_S (zA G) s.heap H locs) (hU : U.heap = H) (hW : s.WarmedH U.vm) : zSt G U := by
  obtain ⟨⟨a, b⟩, ⟨c, d⟩, e, f⟩ := h
  subst hU
  exact ⟨⟨(a.moved hW.alike).kept hS.2.1, (b.moved hW.alike).kept hS.2.1⟩, ⟨(c.moved hW.alike).kept hS.2.1, (d.moved hW.alike).kept hS.2.1⟩, fun q hq => (e q hq).warmM hW, f.moved hW.alike⟩
theorem zK.go {G : zG} {s U : State} {H : Heap} {locs : List Loc} (h : zK G s) (hS : va_S (zA G) s.heap H locs) (hU : U.heap = H) (hW : s.WarmedH U.vm) : zK G U := ⟨h.1.moved hW.alike, h.2.1.go hS hU hW, by rw [hU]; exact Nat.le_trans h.2.2.1 hS.1, h.2.2.2.1, h.2.2.2.2.go hS hU hW⟩
/-- where nothing more is said of the heap's size -/
def zUn (n : Nat) : Prop := n = zN ∨ n = 336 ∨ n = 340
def zRep (G : zG) (n : Nat) (w : zW) (H : Heap) : Prop := (¬ zUn n → H.size = zB G + n) ∧ n ≤ zWd G ∧ va_P G.2.1 vwCl (zws G n w) H
theorem zA_k {G : zG} {n k : Nat} (h : k < n) (hn : n ≤ zWd G) : zA G (zB G + k) := ⟨Nat.le_add_right _ _, by omega⟩
/-! a method: name, code, locals, answer's type, frames and local words below it, cells and slots that it makes -/
abbrev zM : Type := MethodName × ByteArray × Nat × Option FieldType × Nat × Nat × Nat × Nat
def zWs (M : zM) : List Cond := .code M.1 M.2.1 M.2.2.1 M.2.2.2.1 :: zTB
def zrm (M : zM) : Room := { frames := M.2.2.2.2.1, cells := M.2.2.2.2.2.2.1, slots := M.2.2.2.2.2.2.2, locals := M.2.2.2.2.2.1 }
def zPc (G : zG) (args : List Value) (n : Nat) (w : zW) : Array Value → State → Prop := va_Pc (args.map (zmv G)) (fun U => zRep G n w U.heap ∧ zK G U)
def zQc (G : zG) (n' : Nat) (Q : Option Value → zW → Prop) : Array Value → State → Outcome → State → Prop := fun _ st oc t =>
  (∃ (v : Option Value) (w : zW), oc = .returned (v.map (zmv G)) ∧ Q v w ∧ zRep G n' w t.heap) ∧ va_F (zA G) st t
/-- M, called with args in world w (of n cells): ends, answers v and leaves world w' (of n' cells) as Q says -/
def zC (G : zG) (M : zM) (args : List Value) (n : Nat) (w : zW) (n' : Nat) (Q : Option Value → zW → Prop) : Prop :=
  Met G.1 M.1 (zWs M) (zrm M) (zPc G args n w) (zQc G n' Q) M.2.2.2.2.2.2.1 M.2.2.2.2.2.2.2 (zA G)
abbrev zX : Type := Program × Env × State × MethodId × Array Value × List Frame × Method × Code × (State → Prop)
/-- a running method: machine, code, tables -/
def zH (G : zG) (X : zX) (M : zM) : Prop :=
  X.1.tables.exec = Jvm.exec ∧ X.2.2.2.2.2.2.2.1.code = M.2.1 ∧ X.2.2.2.2.2.2.2.1.maxLocals = M.2.2.1 ∧ X.2.2.1.vm.findClass M.1.cls = some X.2.2.2.1.cls ∧ (∀ w ∈ zTB, w.before X.2.2.2.2.1 X.2.2.1 = true) ∧ zK G X.2.2.1 ∧ zB G ≤ X.2.2.1.heap.size ∧ (M.1.name = "<init>" → X.2.2.2.2.2.2.1.name = "<init>")
def zL (G : zG) (nL : Nat) (ls : Array Slot) (lo : List Value) : Prop := ls.size = nL ∧ lv_wf ls ∧ ∀ (k : Nat) (v : Value), lo[k]? = some v → v ≠ .null → ls[k]? = some (.val (zmv G v))
/-- from here on all goes well -/
def zk (G : zG) (X : zX) (M : zM) (n cells slots pc : Nat) (lo st : List Value) (w : zW) : Prop :=
  ∀ (H : Heap) (locs : List Loc), zRep G n w H → va_S (zA G) X.2.2.1.heap H locs → ∀ ls : Array Slot, zL G M.2.2.1 ls lo →
    W X.1 G.1 X.2.1 (zrm M) X.2.2.1 X.2.2.2.1 X.2.2.2.2.1 X.2.2.2.2.2.1 X.2.2.2.2.2.2.1 X.2.2.2.2.2.2.2.1 H locs cells slots X.2.2.2.2.2.2.2.2 (F0 X.2.2.2.1 pc ls (st.map (zmv G)))
abbrev zk0 (G : zG) (X : zX) (M : zM) (pc : Nat) (lo st : List Value) (w : zW) : Prop := zk G X M zN M.2.2.2.2.2.2.1 M.2.2.2.2.2.2.2 pc lo st w
/-- where it ends -/
def zR (G : zG) (X : zX) (M : zM) (n' : Nat) (Q : Option Value → zW → Prop) : Prop :=
  X.2.2.2.2.2.2.2.2 = MQ X.2.2.2.2.2.1 (zQc G n' Q) X.2.2.2.2.1 X.2.2.1 M.2.2.2.2.2.2.1 M.2.2.2.2.2.2.2 (zA G) ∧ X.2.2.2.2.2.2.1.sig.returnType = M.2.2.2.1 ∧ X.2.2.2.2.2.2.1.locks = false
theorem zC.blind {G : zG} {args : List Value} {n : Nat} {w : zW} : FrameBlind (zPc G args n w) := by
  intro a U g mk h
  obtain ⟨h1, h2, h3, h4, h5, h6, L9, xs9, s1, s2, s3, s4⟩ := h
  refine ⟨h1, h2, va_K.moved (u := U) (U := U.calling g mk a) (Vm.Alike.refl U.vm) h3, ?_, h5, h6, L9, xs9, s1, va_X.moved (U := U.calling g mk a) (Vm.Alike.refl U.vm) s2, s3, s4⟩
  obtain ⟨⟨a1, b1⟩, ⟨c1, d1⟩, e1, f1⟩ := h4
  exact ⟨⟨a1.moved (U := U.calling g mk a) (Vm.Alike.refl U.vm), b1.moved (U := U.calling g mk a) (Vm.Alike.refl U.vm)⟩, ⟨c1.moved (U := U.calling g mk a) (Vm.Alike.refl U.vm), d1.moved (U := U.calling g mk a) (Vm.Alike.refl U.vm)⟩, fun q hq => (e1 q hq).same rfl rfl, f1.moved (U := U.calling g mk a) (Vm.Alike.refl U.vm)⟩
/-- from values to slots of locals: a category 2 value fills two -/
def zlo (args : List Value) : List Value := match args with
  | [] => []
  | .long x :: r => .long x :: .null :: zlo r
  | .double x :: r => .double x :: .null :: zlo r
  | v :: r => v :: zlo r

/-! the locals -/
def zal (G : zG) (lo : List Value) : List (Nat × Value) := lo.zipIdx.filterMap (fun q => if q.1 = .null then none else some (q.2, zmv G q.1))
theorem zal_mem {G : zG} {lo : List Value} {k : Nat} {v : Value} (h : lo[k]? = some v) (hv : v ≠ .null) : (k, zmv G v) ∈ zal G lo := by
  refine List.mem_filterMap.mpr ⟨(v, k), ?_, by simp [hv]⟩
  rw [List.mem_iff_getElem?]
  exact ⟨k, by simp [List.getElem?_zipIdx, h]⟩
theorem zal_of {G : zG} {lo : List Value} {q : Nat × Value} (h : q ∈ zal G lo) : ∃ v, lo[q.1]? = some v ∧ v ≠ .null ∧ q.2 = zmv G v := by
  obtain ⟨⟨v, k⟩, h1, h2⟩ := List.mem_filterMap.mp h
  by_cases hv : v = .null
  · simp [hv] at h2
  · simp [hv] at h2
    subst h2
    refine ⟨v, ?_, hv, rfl⟩
    obtain ⟨i, hi⟩ := List.mem_iff_getElem?.mp h1
    rw [List.getElem?_zipIdx] at hi
    cases hl : lo[i]? with
    | none => rw [hl] at hi; simp at hi
    | some u =>
      rw [hl] at hi
      simp at hi
      obtain ⟨rfl, rfl⟩ := hi
      exact hl
theorem zL.has {G : zG} {nL : Nat} {ls : Array Slot} {lo : List Value} (h : zL G nL ls lo) : lv_has ls nL (zal G lo) := by
  refine ⟨h.1, h.2.1, fun q hq => ?_⟩
  obtain ⟨v, h1, h2, h3⟩ := zal_of hq
  rw [h3]
  exact h.2.2 q.1 v h1 h2
def zok (lo : List Value) (i : Nat) : Bool := match i with
  | 0 => true
  | j + 1 => match lo[j]? with
    | some (.long _) => false
    | some (.double _) => false
    | _ => true
theorem zmv_cat {G : zG} {v : Value} : (zmv G v).category = v.category := by cases v <;> rfl
theorem zok_cat {lo : List Value} {i k : Nat} {v : Value} (h : zok lo i = true) (hk : lo[k]? = some v) (hi : k + 1 = i) : v.category ≠ 2 := by
  subst hi
  unfold zok at h
  simp only [hk] at h
  cases v <;> simp [Value.category] at h ⊢
theorem zL.set1 {G : zG} {nL i : Nat} {ls' : Array Slot} {lo : List Value} {v : Value} (h : lv_has ls' nL ((i, zmv G v) :: (zal G lo).filter (fun q => !(q.1 == i) && !(q.1 + 1 == i && q.2.category == 2)))) (ho : zok lo i = true) : zL G nL ls' (lo.set i v) := by
  refine ⟨h.1, h.2.1, fun k u hk hu => ?_⟩
  by_cases hki : i = k
  · subst hki
    by_cases hl : i < lo.length
    · rw [List.getElem?_set_self hl] at hk
      cases hk
      exact h.2.2 (i, zmv G v) List.mem_cons_self
    · rw [List.getElem?_eq_none_iff.mpr (by simp; omega)] at hk
      cases hk
  · rw [List.getElem?_set_ne hki] at hk
    refine h.2.2 (k, zmv G u) (List.mem_cons_of_mem _ (List.mem_filter.mpr ⟨zal_mem hk hu, ?_⟩))
    have h1 : (k == i) = false := by simp; omega
    simp only [h1, Bool.not_false, Bool.true_and, zmv_cat]
    by_cases h2 : k + 1 = i
    · have := zok_cat ho hk h2
      simp [this]
    · simp [h2]
theorem zL.set2 {G : zG} {nL i : Nat} {ls' : Array Slot} {lo : List Value} {v : Value} (h : lv_has ls' nL ((i, zmv G v) :: (zal G lo).filter (fun q => !(q.1 == i) && (!(q.1 == i + 1) && !(q.1 + 1 == i && q.2.category == 2))))) (ho : zok lo i = true) : zL G nL ls' ((lo.set i v).set (i + 1) .null) := by
  refine ⟨h.1, h.2.1, fun k u hk hu => ?_⟩
  by_cases hk1 : i + 1 = k
  · subst hk1
    by_cases hl : i + 1 < (lo.set i v).length
    · rw [List.getElem?_set_self hl] at hk
      cases hk
      exact absurd rfl hu
    · rw [List.getElem?_eq_none_iff.mpr (by simp at hl ⊢; omega)] at hk
      cases hk
  · rw [List.getElem?_set_ne hk1] at hk
    by_cases hki : i = k
    · subst hki
      by_cases hl : i < lo.length
      · rw [List.getElem?_set_self hl] at hk
        cases hk
        exact h.2.2 (i, zmv G v) List.mem_cons_self
      · rw [List.getElem?_eq_none_iff.mpr (by simp; omega)] at hk
        cases hk
    · rw [List.getElem?_set_ne hki] at hk
      refine h.2.2 (k, zmv G u) (List.mem_cons_of_mem _ (List.mem_filter.mpr ⟨zal_mem hk hu, ?_⟩))
      have h1 : (k == i) = false := by simp; omega
      have h3 : (k == i + 1) = false := by simp; omega
      simp only [h1, h3, Bool.not_false, Bool.true_and, zmv_cat]
      by_cases h2 : k + 1 = i
      · have := zok_cat ho hk h2
        simp [this]
      · simp [h2]
theorem zL.sub {G : zG} {nL : Nat} {ls : Array Slot} {lo lo' : List Value} (h : zL G nL ls lo) (hs : ∀ (k : Nat) (v : Value), lo'[k]? = some v → v ≠ .null → lo[k]? = some v) : zL G nL ls lo' := ⟨h.1, h.2.1, fun k v hk hv => h.2.2 k v (hs k v hk hv) hv⟩
section ZR
variable {G : zG} {X : zX} {M : zM} {n cells slots pc : Nat} {lo st : List Value} {w : zW}
theorem zk_go {pc' : Nat} (h : pc = pc') (k : zk G X M n cells slots pc' lo st w) : zk G X M n cells slots pc lo st w := h ▸ k
/-- fewer locals known -/
theorem zk_lo {lo' : List Value} (hs : ∀ (k : Nat) (v : Value), lo'[k]? = some v → v ≠ .null → lo[k]? = some v) (k : zk G X M n cells slots pc lo' st w) : zk G X M n cells slots pc lo st w := fun H locs hR hS ls hl => k H locs hR hS ls (zL.sub hl hs)
theorem zk_iadd (hX : zH G X M) {x : Int32} {y : Int32} (d : decode M.2.1 pc = .ok (.iadd, 1)) (k : zk G X M n cells slots (pc + 1) lo (.int (x + y) :: st) w) : zk G X M n cells slots pc lo (.int y :: .int x :: st) w :=
  fun H locs hR hS ls hl => lv_iadd hX.1 hX.2.1 d (k H locs hR hS ls hl)
theorem zk_isub (hX : zH G X M) {x : Int32} {y : Int32} (d : decode M.2.1 pc = .ok (.isub, 1)) (k : zk G X M n cells slots (pc + 1) lo (.int (x - y) :: st) w) : zk G X M n cells slots pc lo (.int y :: .int x :: st) w :=
  fun H locs hR hS ls hl => lv_isub hX.1 hX.2.1 d (k H locs hR hS ls hl)
theorem zk_imul (hX : zH G X M) {x : Int32} {y : Int32} (d : decode M.2.1 pc = .ok (.imul, 1)) (k : zk G X M n cells slots (pc + 1) lo (.int (x * y) :: st) w) : zk G X M n cells slots pc lo (.int y :: .int x :: st) w :=
  fun H locs hR hS ls hl => lv_imul hX.1 hX.2.1 d (k H locs hR hS ls hl)
theorem zk_iand (hX : zH G X M) {x : Int32} {y : Int32} (d : decode M.2.1 pc = .ok (.iand, 1)) (k : zk G X M n cells slots (pc + 1) lo (.int (x &&& y) :: st) w) : zk G X M n cells slots pc lo (.int y :: .int x :: st) w :=
  fun H locs hR hS ls hl => lv_iand hX.1 hX.2.1 d (k H locs hR hS ls hl)
theorem zk_ior (hX : zH G X M) {x : Int32} {y : Int32} (d : decode M.2.1 pc = .ok (.ior, 1)) (k : zk G X M n cells slots (pc + 1) lo (.int (x ||| y) :: st) w) : zk G X M n cells slots pc lo (.int y :: .int x :: st) w :=
  fun H locs hR hS ls hl => lv_ior hX.1 hX.2.1 d (k H locs hR hS ls hl)
theorem zk_ixor (hX : zH G X M) {x : Int32} {y : Int32} (d : decode M.2.1 pc = .ok (.ixor, 1)) (k : zk G X M n cells slots (pc + 1) lo (.int (x ^^^ y) :: st) w) : zk G X M n cells slots pc lo (.int y :: .int x :: st) w :=
  fun H locs hR hS ls hl => lv_ixor hX.1 hX.2.1 d (k H locs hR hS ls hl)
theorem zk_ishl (hX : zH G X M) {x : Int32} {y : Int32} (d : decode M.2.1 pc = .ok (.ishl, 1)) (k : zk G X M n cells slots (pc + 1) lo (.int (x <<< (y &&& 31)) :: st) w) : zk G X M n cells slots pc lo (.int y :: .int x :: st) w :=
  fun H locs hR hS ls hl => lv_ishl hX.1 hX.2.1 d (k H locs hR hS ls hl)
theorem zk_ishr (hX : zH G X M) {x : Int32} {y : Int32} (d : decode M.2.1 pc = .ok (.ishr, 1)) (k : zk G X M n cells slots (pc + 1) lo (.int (x >>> (y &&& 31)) :: st) w) : zk G X M n cells slots pc lo (.int y :: .int x :: st) w :=
  fun H locs hR hS ls hl => lv_ishr hX.1 hX.2.1 d (k H locs hR hS ls hl)
theorem zk_iushr (hX : zH G X M) {x : Int32} {y : Int32} (d : decode M.2.1 pc = .ok (.iushr, 1)) (k : zk G X M n cells slots (pc + 1) lo (.int ((x.toUInt32 >>> (y.toUInt32 &&& Int32.toUInt32 31)).toInt32) :: st) w) : zk G X M n cells slots pc lo (.int y :: .int x :: st) w :=
  fun H locs hR hS ls hl => lv_iushr hX.1 hX.2.1 d rfl (k H locs hR hS ls hl)
theorem zk_ineg (hX : zH G X M) {x : Int32} (d : decode M.2.1 pc = .ok (.ineg, 1)) (k : zk G X M n cells slots (pc + 1) lo (.int (-x) :: st) w) : zk G X M n cells slots pc lo (.int x :: st) w :=
  fun H locs hR hS ls hl => lv_ineg hX.1 hX.2.1 d (k H locs hR hS ls hl)
theorem zk_i2b (hX : zH G X M) {x : Int32} (d : decode M.2.1 pc = .ok (.i2b, 1)) (k : zk G X M n cells slots (pc + 1) lo (.int (x.toInt8.toInt32) :: st) w) : zk G X M n cells slots pc lo (.int x :: st) w :=
  fun H locs hR hS ls hl => lv_i2b hX.1 hX.2.1 d rfl (k H locs hR hS ls hl)
theorem zk_l2i (hX : zH G X M) {x : Int64} (d : decode M.2.1 pc = .ok (.l2i, 1)) (k : zk G X M n cells slots (pc + 1) lo (.int (x.toInt32) :: st) w) : zk G X M n cells slots pc lo (.long x :: st) w :=
  fun H locs hR hS ls hl => lv_l2i hX.1 hX.2.1 d rfl (k H locs hR hS ls hl)
theorem zk_i2l (hX : zH G X M) {x : Int32} (d : decode M.2.1 pc = .ok (.i2l, 1)) (k : zk G X M n cells slots (pc + 1) lo (.long (x.toInt64) :: st) w) : zk G X M n cells slots pc lo (.int x :: st) w :=
  fun H locs hR hS ls hl => lv_i2l hX.1 hX.2.1 d rfl (k H locs hR hS ls hl)
theorem zk_ladd (hX : zH G X M) {x : Int64} {y : Int64} (d : decode M.2.1 pc = .ok (.ladd, 1)) (k : zk G X M n cells slots (pc + 1) lo (.long (x + y) :: st) w) : zk G X M n cells slots pc lo (.long y :: .long x :: st) w :=
  fun H locs hR hS ls hl => lv_ladd hX.1 hX.2.1 d (k H locs hR hS ls hl)
theorem zk_lsub (hX : zH G X M) {x : Int64} {y : Int64} (d : decode M.2.1 pc = .ok (.lsub, 1)) (k : zk G X M n cells slots (pc + 1) lo (.long (x - y) :: st) w) : zk G X M n cells slots pc lo (.long y :: .long x :: st) w :=
  fun H locs hR hS ls hl => lv_lsub hX.1 hX.2.1 d (k H locs hR hS ls hl)
theorem zk_lmul (hX : zH G X M) {x : Int64} {y : Int64} (d : decode M.2.1 pc = .ok (.lmul, 1)) (k : zk G X M n cells slots (pc + 1) lo (.long (x * y) :: st) w) : zk G X M n cells slots pc lo (.long y :: .long x :: st) w :=
  fun H locs hR hS ls hl => lv_lmul hX.1 hX.2.1 d (k H locs hR hS ls hl)
theorem zk_land (hX : zH G X M) {x : Int64} {y : Int64} (d : decode M.2.1 pc = .ok (.land, 1)) (k : zk G X M n cells slots (pc + 1) lo (.long (x &&& y) :: st) w) : zk G X M n cells slots pc lo (.long y :: .long x :: st) w :=
  fun H locs hR hS ls hl => lv_land hX.1 hX.2.1 d (k H locs hR hS ls hl)
theorem zk_lor (hX : zH G X M) {x : Int64} {y : Int64} (d : decode M.2.1 pc = .ok (.lor, 1)) (k : zk G X M n cells slots (pc + 1) lo (.long (x ||| y) :: st) w) : zk G X M n cells slots pc lo (.long y :: .long x :: st) w :=
  fun H locs hR hS ls hl => lv_lor hX.1 hX.2.1 d (k H locs hR hS ls hl)
theorem zk_lxor (hX : zH G X M) {x : Int64} {y : Int64} (d : decode M.2.1 pc = .ok (.lxor, 1)) (k : zk G X M n cells slots (pc + 1) lo (.long (x ^^^ y) :: st) w) : zk G X M n cells slots pc lo (.long y :: .long x :: st) w :=
  fun H locs hR hS ls hl => lv_lxor hX.1 hX.2.1 d (k H locs hR hS ls hl)
theorem zk_lshl (hX : zH G X M) {x : Int64} {y : Int32} (d : decode M.2.1 pc = .ok (.lshl, 1)) (k : zk G X M n cells slots (pc + 1) lo (.long (x <<< (y.toInt64 &&& 63)) :: st) w) : zk G X M n cells slots pc lo (.int y :: .long x :: st) w :=
  fun H locs hR hS ls hl => lv_lshl hX.1 hX.2.1 d rfl (k H locs hR hS ls hl)
theorem zk_lushr (hX : zH G X M) {x : Int64} {y : Int32} (d : decode M.2.1 pc = .ok (.lushr, 1)) (k : zk G X M n cells slots (pc + 1) lo (.long ((x.toUInt64 >>> (y.toInt64.toUInt64 &&& Int64.toUInt64 63)).toInt64) :: st) w) : zk G X M n cells slots pc lo (.int y :: .long x :: st) w :=
  fun H locs hR hS ls hl => lv_lushr hX.1 hX.2.1 d rfl (k H locs hR hS ls hl)
theorem zk_idiv (hX : zH G X M) {x : Int32} {y : Int32} (d : decode M.2.1 pc = .ok (.idiv, 1)) (hne : ¬ y = 0) (k : zk G X M n cells slots (pc + 1) lo (.int (x / y) :: st) w) : zk G X M n cells slots pc lo (.int y :: .int x :: st) w :=
  fun H locs hR hS ls hl => lv_idiv hX.1 hX.2.1 d hne (k H locs hR hS ls hl)
theorem zk_irem (hX : zH G X M) {x : Int32} {y : Int32} (d : decode M.2.1 pc = .ok (.irem, 1)) (hne : ¬ y = 0) (k : zk G X M n cells slots (pc + 1) lo (.int (x - x / y * y) :: st) w) : zk G X M n cells slots pc lo (.int y :: .int x :: st) w :=
  fun H locs hR hS ls hl => lv_irem hX.1 hX.2.1 d hne (k H locs hR hS ls hl)
theorem zk_ldiv (hX : zH G X M) {x : Int64} {y : Int64} (d : decode M.2.1 pc = .ok (.ldiv, 1)) (hne : ¬ y = 0) (k : zk G X M n cells slots (pc + 1) lo (.long (x / y) :: st) w) : zk G X M n cells slots pc lo (.long y :: .long x :: st) w :=
  fun H locs hR hS ls hl => lv_ldiv hX.1 hX.2.1 d hne (k H locs hR hS ls hl)
theorem zk_lrem (hX : zH G X M) {x : Int64} {y : Int64} (d : decode M.2.1 pc = .ok (.lrem, 1)) (hne : ¬ y = 0) (k : zk G X M n cells slots (pc + 1) lo (.long (x - x / y * y) :: st) w) : zk G X M n cells slots pc lo (.long y :: .long x :: st) w :=
  fun H locs hR hS ls hl => lv_lrem hX.1 hX.2.1 d hne (k H locs hR hS ls hl)
theorem zk_if_eq (hX : zH G X M) {x : Int32} {off : Int} {tgt : Nat} (d : decode M.2.1 pc = .ok (.ifCond .eq off, 3)) (ht : (pc : Int) + off = (tgt : Int)) (kt : x = 0 → zk G X M n cells slots tgt lo st w) (kf : ¬ x = 0 → zk G X M n cells slots (pc + 3) lo st w) : zk G X M n cells slots pc lo (.int x :: st) w :=
  fun H locs hR hS ls hl => lv_if_eq hX.1 hX.2.1 d ht (fun h => kt h H locs hR hS ls hl) (fun h => kf h H locs hR hS ls hl)
theorem zk_icmp_eq (hX : zH G X M) {x y : Int32} {off : Int} {tgt : Nat} (d : decode M.2.1 pc = .ok (.if_icmp .eq off, 3)) (ht : (pc : Int) + off = (tgt : Int)) (kt : x = y → zk G X M n cells slots tgt lo st w) (kf : ¬ x = y → zk G X M n cells slots (pc + 3) lo st w) : zk G X M n cells slots pc lo (.int y :: .int x :: st) w :=
  fun H locs hR hS ls hl => lv_icmp_eq hX.1 hX.2.1 d ht (fun h => kt h H locs hR hS ls hl) (fun h => kf h H locs hR hS ls hl)
theorem zk_if_ne (hX : zH G X M) {x : Int32} {off : Int} {tgt : Nat} (d : decode M.2.1 pc = .ok (.ifCond .ne off, 3)) (ht : (pc : Int) + off = (tgt : Int)) (kt : ¬ x = 0 → zk G X M n cells slots tgt lo st w) (kf : x = 0 → zk G X M n cells slots (pc + 3) lo st w) : zk G X M n cells slots pc lo (.int x :: st) w :=
  fun H locs hR hS ls hl => lv_if_ne hX.1 hX.2.1 d ht (fun h => kt h H locs hR hS ls hl) (fun h => kf h H locs hR hS ls hl)
theorem zk_icmp_ne (hX : zH G X M) {x y : Int32} {off : Int} {tgt : Nat} (d : decode M.2.1 pc = .ok (.if_icmp .ne off, 3)) (ht : (pc : Int) + off = (tgt : Int)) (kt : ¬ x = y → zk G X M n cells slots tgt lo st w) (kf : x = y → zk G X M n cells slots (pc + 3) lo st w) : zk G X M n cells slots pc lo (.int y :: .int x :: st) w :=
  fun H locs hR hS ls hl => lv_icmp_ne hX.1 hX.2.1 d ht (fun h => kt h H locs hR hS ls hl) (fun h => kf h H locs hR hS ls hl)
theorem zk_if_lt (hX : zH G X M) {x : Int32} {off : Int} {tgt : Nat} (d : decode M.2.1 pc = .ok (.ifCond .lt off, 3)) (ht : (pc : Int) + off = (tgt : Int)) (kt : x < 0 → zk G X M n cells slots tgt lo st w) (kf : ¬ x < 0 → zk G X M n cells slots (pc + 3) lo st w) : zk G X M n cells slots pc lo (.int x :: st) w :=
  fun H locs hR hS ls hl => lv_if_lt hX.1 hX.2.1 d ht (fun h => kt h H locs hR hS ls hl) (fun h => kf h H locs hR hS ls hl)
theorem zk_icmp_lt (hX : zH G X M) {x y : Int32} {off : Int} {tgt : Nat} (d : decode M.2.1 pc = .ok (.if_icmp .lt off, 3)) (ht : (pc : Int) + off = (tgt : Int)) (kt : x < y → zk G X M n cells slots tgt lo st w) (kf : ¬ x < y → zk G X M n cells slots (pc + 3) lo st w) : zk G X M n cells slots pc lo (.int y :: .int x :: st) w :=
  fun H locs hR hS ls hl => lv_icmp_lt hX.1 hX.2.1 d ht (fun h => kt h H locs hR hS ls hl) (fun h => kf h H locs hR hS ls hl)
theorem zk_if_ge (hX : zH G X M) {x : Int32} {off : Int} {tgt : Nat} (d : decode M.2.1 pc = .ok (.ifCond .ge off, 3)) (ht : (pc : Int) + off = (tgt : Int)) (kt : 0 ≤ x → zk G X M n cells slots tgt lo st w) (kf : ¬ 0 ≤ x → zk G X M n cells slots (pc + 3) lo st w) : zk G X M n cells slots pc lo (.int x :: st) w :=
  fun H locs hR hS ls hl => lv_if_ge hX.1 hX.2.1 d ht (fun h => kt h H locs hR hS ls hl) (fun h => kf h H locs hR hS ls hl)
theorem zk_icmp_ge (hX : zH G X M) {x y : Int32} {off : Int} {tgt : Nat} (d : decode M.2.1 pc = .ok (.if_icmp .ge off, 3)) (ht : (pc : Int) + off = (tgt : Int)) (kt : y ≤ x → zk G X M n cells slots tgt lo st w) (kf : ¬ y ≤ x → zk G X M n cells slots (pc + 3) lo st w) : zk G X M n cells slots pc lo (.int y :: .int x :: st) w :=
  fun H locs hR hS ls hl => lv_icmp_ge hX.1 hX.2.1 d ht (fun h => kt h H locs hR hS ls hl) (fun h => kf h H locs hR hS ls hl)
theorem zk_if_gt (hX : zH G X M) {x : Int32} {off : Int} {tgt : Nat} (d : decode M.2.1 pc = .ok (.ifCond .gt off, 3)) (ht : (pc : Int) + off = (tgt : Int)) (kt : 0 < x → zk G X M n cells slots tgt lo st w) (kf : ¬ 0 < x → zk G X M n cells slots (pc + 3) lo st w) : zk G X M n cells slots pc lo (.int x :: st) w :=
  fun H locs hR hS ls hl => lv_if_gt hX.1 hX.2.1 d ht (fun h => kt h H locs hR hS ls hl) (fun h => kf h H locs hR hS ls hl)
theorem zk_icmp_gt (hX : zH G X M) {x y : Int32} {off : Int} {tgt : Nat} (d : decode M.2.1 pc = .ok (.if_icmp .gt off, 3)) (ht : (pc : Int) + off = (tgt : Int)) (kt : y < x → zk G X M n cells slots tgt lo st w) (kf : ¬ y < x → zk G X M n cells slots (pc + 3) lo st w) : zk G X M n cells slots pc lo (.int y :: .int x :: st) w :=
  fun H locs hR hS ls hl => lv_icmp_gt hX.1 hX.2.1 d ht (fun h => kt h H locs hR hS ls hl) (fun h => kf h H locs hR hS ls hl)
theorem zk_if_le (hX : zH G X M) {x : Int32} {off : Int} {tgt : Nat} (d : decode M.2.1 pc = .ok (.ifCond .le off, 3)) (ht : (pc : Int) + off = (tgt : Int)) (kt : x ≤ 0 → zk G X M n cells slots tgt lo st w) (kf : ¬ x ≤ 0 → zk G X M n cells slots (pc + 3) lo st w) : zk G X M n cells slots pc lo (.int x :: st) w :=
  fun H locs hR hS ls hl => lv_if_le hX.1 hX.2.1 d ht (fun h => kt h H locs hR hS ls hl) (fun h => kf h H locs hR hS ls hl)
theorem zk_icmp_le (hX : zH G X M) {x y : Int32} {off : Int} {tgt : Nat} (d : decode M.2.1 pc = .ok (.if_icmp .le off, 3)) (ht : (pc : Int) + off = (tgt : Int)) (kt : x ≤ y → zk G X M n cells slots tgt lo st w) (kf : ¬ x ≤ y → zk G X M n cells slots (pc + 3) lo st w) : zk G X M n cells slots pc lo (.int y :: .int x :: st) w :=
  fun H locs hR hS ls hl => lv_icmp_le hX.1 hX.2.1 d ht (fun h => kt h H locs hR hS ls hl) (fun h => kf h H locs hR hS ls hl)
theorem zk_lcmp (hX : zH G X M) {x y : Int64} (d : decode M.2.1 pc = .ok (.lcmp, 1)) (k : zk G X M n cells slots (pc + 1) lo (.int (lg_cmp x y) :: st) w) : zk G X M n cells slots pc lo (.long y :: .long x :: st) w :=
  fun H locs hR hS ls hl => W.lcmp hX.1 hX.2.1 d (k H locs hR hS ls hl)
theorem zk_iload_n (hX : zH G X M) {i : Fin 4} {x : Int32} (d : decode M.2.1 pc = .ok (.iload_n i, 1)) (h : lo[(i : Nat)]? = some (.int x)) (k : zk G X M n cells slots (pc + 1) lo (.int x :: st) w) : zk G X M n cells slots pc lo st w :=
  fun H locs hR hS ls hl => lv_iload_n hX.1 hX.2.1 d rfl (hl.2.2 i _ h (by intro q; cases q)) (k H locs hR hS ls hl)
theorem zk_iload (hX : zH G X M) {i : Nat} {x : Int32} (d : decode M.2.1 pc = .ok (.iload i, 2)) (h : lo[i]? = some (.int x)) (k : zk G X M n cells slots (pc + 2) lo (.int x :: st) w) : zk G X M n cells slots pc lo st w :=
  fun H locs hR hS ls hl => lv_iload hX.1 hX.2.1 d (hl.2.2 i _ h (by intro q; cases q)) (k H locs hR hS ls hl)
theorem zk_lload_n (hX : zH G X M) {i : Fin 4} {x : Int64} (d : decode M.2.1 pc = .ok (.lload_n i, 1)) (h : lo[(i : Nat)]? = some (.long x)) (k : zk G X M n cells slots (pc + 1) lo (.long x :: st) w) : zk G X M n cells slots pc lo st w :=
  fun H locs hR hS ls hl => lv_lload_n hX.1 hX.2.1 d rfl (hl.2.2 i _ h (by intro q; cases q)) (k H locs hR hS ls hl)
theorem zk_lload (hX : zH G X M) {i : Nat} {x : Int64} (d : decode M.2.1 pc = .ok (.lload i, 2)) (h : lo[i]? = some (.long x)) (k : zk G X M n cells slots (pc + 2) lo (.long x :: st) w) : zk G X M n cells slots pc lo st w :=
  fun H locs hR hS ls hl => lv_lload hX.1 hX.2.1 d (hl.2.2 i _ h (by intro q; cases q)) (k H locs hR hS ls hl)
theorem zk_aload_n (hX : zH G X M) {i : Fin 4} {x : Nat} (d : decode M.2.1 pc = .ok (.aload_n i, 1)) (h : lo[(i : Nat)]? = some (.ref x)) (k : zk G X M n cells slots (pc + 1) lo (.ref x :: st) w) : zk G X M n cells slots pc lo st w :=
  fun H locs hR hS ls hl => lv_aload_n hX.1 hX.2.1 d rfl (hl.2.2 i _ h (by intro q; cases q)) (k H locs hR hS ls hl)
theorem zk_aload (hX : zH G X M) {i : Nat} {x : Nat} (d : decode M.2.1 pc = .ok (.aload i, 2)) (h : lo[i]? = some (.ref x)) (k : zk G X M n cells slots (pc + 2) lo (.ref x :: st) w) : zk G X M n cells slots pc lo st w :=
  fun H locs hR hS ls hl => lv_aload hX.1 hX.2.1 d (hl.2.2 i _ h (by intro q; cases q)) (k H locs hR hS ls hl)
theorem zk_fload_n (hX : zH G X M) {i : Fin 4} {x : UInt32} (d : decode M.2.1 pc = .ok (.aload_n i, 1)) (h : lo[(i : Nat)]? = some (.float x)) (k : zk G X M n cells slots (pc + 1) lo (.float x :: st) w) : zk G X M n cells slots pc lo st w :=
  fun H locs hR hS ls hl => lv_aload_n hX.1 hX.2.1 d rfl (hl.2.2 i _ h (by intro q; cases q)) (k H locs hR hS ls hl)
theorem zk_istore_n (hX : zH G X M) {i : Fin 4} {x : Int32} {lo' : List Value} (d : decode M.2.1 pc = .ok (.istore_n i, 1)) (hn : (i : Nat) < M.2.2.1) (ho : zok lo i = true) (h : lo.set i (.int x) = lo') (k : zk G X M n cells slots (pc + 1) lo' st w) : zk G X M n cells slots pc lo (.int x :: st) w :=
  fun H locs hR hS ls hl => lv_istore_n (i := (i : Nat)) hX.1 hX.2.1 d rfl hl.has hn rfl (fun ls' h' => k H locs hR hS ls' (h ▸ zL.set1 (v := .int x) h' ho))
theorem zk_istore (hX : zH G X M) {i : Nat} {x : Int32} {lo' : List Value} (d : decode M.2.1 pc = .ok (.istore i, 2)) (hn : i < M.2.2.1) (ho : zok lo i = true) (h : lo.set i (.int x) = lo') (k : zk G X M n cells slots (pc + 2) lo' st w) : zk G X M n cells slots pc lo (.int x :: st) w :=
  fun H locs hR hS ls hl => lv_istore hX.1 hX.2.1 d hl.has hn rfl (fun ls' h' => k H locs hR hS ls' (h ▸ zL.set1 (v := .int x) h' ho))
theorem zk_astore_n (hX : zH G X M) {i : Fin 4} {x : Nat} {lo' : List Value} (d : decode M.2.1 pc = .ok (.astore_n i, 1)) (hn : (i : Nat) < M.2.2.1) (ho : zok lo i = true) (h : lo.set i (.ref x) = lo') (k : zk G X M n cells slots (pc + 1) lo' st w) : zk G X M n cells slots pc lo (.ref x :: st) w :=
  fun H locs hR hS ls hl => lv_astore_n (i := (i : Nat)) hX.1 hX.2.1 d rfl hl.has hn rfl (fun ls' h' => k H locs hR hS ls' (h ▸ zL.set1 (v := .ref x) h' ho))
theorem zk_astore (hX : zH G X M) {i : Nat} {x : Nat} {lo' : List Value} (d : decode M.2.1 pc = .ok (.astore i, 2)) (hn : i < M.2.2.1) (ho : zok lo i = true) (h : lo.set i (.ref x) = lo') (k : zk G X M n cells slots (pc + 2) lo' st w) : zk G X M n cells slots pc lo (.ref x :: st) w :=
  fun H locs hR hS ls hl => lv_astore hX.1 hX.2.1 d hl.has hn rfl (fun ls' h' => k H locs hR hS ls' (h ▸ zL.set1 (v := .ref x) h' ho))
theorem zk_lstore_n (hX : zH G X M) {i : Fin 4} {x : Int64} {lo' : List Value} (d : decode M.2.1 pc = .ok (.lstore_n i, 1)) (hn : (i : Nat) + 1 < M.2.2.1) (ho : zok lo i = true) (h : (lo.set i (.long x)).set (i + 1) .null = lo') (k : zk G X M n cells slots (pc + 1) lo' st w) : zk G X M n cells slots pc lo (.long x :: st) w :=
  fun H locs hR hS ls hl => lv_lstore_n (i := (i : Nat)) hX.1 hX.2.1 d rfl hl.has hn rfl (fun ls' h' => k H locs hR hS ls' (h ▸ zL.set2 (v := .long x) h' ho))
theorem zk_lstore (hX : zH G X M) {i : Nat} {x : Int64} {lo' : List Value} (d : decode M.2.1 pc = .ok (.lstore i, 2)) (hn : i + 1 < M.2.2.1) (ho : zok lo i = true) (h : (lo.set i (.long x)).set (i + 1) .null = lo') (k : zk G X M n cells slots (pc + 2) lo' st w) : zk G X M n cells slots pc lo (.long x :: st) w :=
  fun H locs hR hS ls hl => lv_lstore hX.1 hX.2.1 d hl.has hn rfl (fun ls' h' => k H locs hR hS ls' (h ▸ zL.set2 (v := .long x) h' ho))
theorem zk_iinc (hX : zH G X M) {i : Nat} {z : Int} {x v : Int32} {lo' : List Value} (d : decode M.2.1 pc = .ok (.iinc i z, 3)) (hx : lo[i]? = some (.int x)) (hv : x + Int32.ofInt z = v) (hn : i < M.2.2.1) (ho : zok lo i = true) (h : lo.set i (.int v) = lo') (k : zk G X M n cells slots (pc + 3) lo' st w) : zk G X M n cells slots pc lo st w :=
  fun H locs hR hS ls hl => lv_iinc (lv := (i, .int x) :: zal G lo) (k := 0) hX.1 hX.2.1 d ⟨hl.1, hl.2.1, fun q hq => by
    rcases List.mem_cons.mp hq with rfl | hq
    · exact hl.2.2 i _ hx (by intro q; cases q)
    · exact hl.has.2.2 q hq⟩ rfl hv hn rfl (fun ls' h' => k H locs hR hS ls' (h ▸ zL.set1 (v := .int v) ⟨h'.1, h'.2.1, fun q hq => h'.2.2 q (by
      rcases List.mem_cons.mp hq with rfl | hq
      · exact List.mem_cons_self
      · refine List.mem_cons_of_mem _ ?_
        obtain ⟨h1, h2⟩ := List.mem_filter.mp hq
        exact List.mem_filter.mpr ⟨List.mem_cons_of_mem _ h1, h2⟩)⟩ ho))
theorem zk_iconst (hX : zH G X M) {z : Int} {v : Int32} (d : decode M.2.1 pc = .ok (.iconst z, 1)) (hv : Int32.ofInt z = v) (k : zk G X M n cells slots (pc + 1) lo (.int v :: st) w) : zk G X M n cells slots pc lo st w :=
  fun H locs hR hS ls hl => lv_iconst hX.1 hX.2.1 d hv (k H locs hR hS ls hl)
theorem zk_bipush (hX : zH G X M) {z : Int} {v : Int32} (d : decode M.2.1 pc = .ok (.bipush z, 2)) (hv : (Int8.ofInt z).toInt32 = v) (k : zk G X M n cells slots (pc + 2) lo (.int v :: st) w) : zk G X M n cells slots pc lo st w :=
  fun H locs hR hS ls hl => lv_bipush hX.1 hX.2.1 d hv (k H locs hR hS ls hl)
theorem zk_sipush (hX : zH G X M) {z : Int} {v : Int32} (d : decode M.2.1 pc = .ok (.sipush z, 3)) (hv : (Int16.ofInt z).toInt32 = v) (k : zk G X M n cells slots (pc + 3) lo (.int v :: st) w) : zk G X M n cells slots pc lo st w :=
  fun H locs hR hS ls hl => lv_sipush hX.1 hX.2.1 d hv (k H locs hR hS ls hl)
theorem zk_lconst (hX : zH G X M) {z : Fin 2} {v : Int64} (d : decode M.2.1 pc = .ok (.lconst z, 1)) (hv : Int64.ofNat (z : Nat) = v) (k : zk G X M n cells slots (pc + 1) lo (.long v :: st) w) : zk G X M n cells slots pc lo st w :=
  fun H locs hR hS ls hl => lv_lconst hX.1 hX.2.1 d hv (k H locs hR hS ls hl)
theorem zk_ldc (hX : zH G X M) {i : Nat} {v : Int32} (d : decode M.2.1 pc = .ok (.ldc i, 2)) (hc : Cond.constant M.1.cls i v ∈ zTB) (k : zk G X M n cells slots (pc + 2) lo (.int v :: st) w) : zk G X M n cells slots pc lo st w :=
  fun H locs hR hS ls hl => lv_ldc hX.1 hX.2.1 hX.2.2.2.1 (hX.2.2.2.2.1 _ hc) d (k H locs hR hS ls hl)
theorem zk_ldcw (hX : zH G X M) {i : Nat} {v : Int32} (d : decode M.2.1 pc = .ok (.ldc_w i, 3)) (hc : Cond.constant M.1.cls i v ∈ zTB) (k : zk G X M n cells slots (pc + 3) lo (.int v :: st) w) : zk G X M n cells slots pc lo st w :=
  fun H locs hR hS ls hl => lv_ldcw hX.1 hX.2.1 hX.2.2.2.1 (hX.2.2.2.2.1 _ hc) d (k H locs hR hS ls hl)
theorem zk_ldc2 (hX : zH G X M) {i : Nat} {v : Int64} (d : decode M.2.1 pc = .ok (.ldc2_w i, 3)) (hc : Cond.constantLong M.1.cls i v ∈ zTB) (k : zk G X M n cells slots (pc + 3) lo (.long v :: st) w) : zk G X M n cells slots pc lo st w :=
  fun H locs hR hS ls hl => lv_ldc2 hX.1 hX.2.1 hX.2.2.2.1 (hX.2.2.2.2.1 _ hc) d (k H locs hR hS ls hl)
theorem zk_goto (hX : zH G X M) {off : Int} {tgt : Nat} (d : decode M.2.1 pc = .ok (.goto off, 3)) (ht : (pc : Int) + off = (tgt : Int)) (k : zk G X M n cells slots tgt lo st w) : zk G X M n cells slots pc lo st w :=
  fun H locs hR hS ls hl => lv_goto hX.1 hX.2.1 d ht (k H locs hR hS ls hl)
theorem zk_tableOut (hX : zH G X M) {dflt lw hi : Int} {offs : Array Int} {len : Nat} {x : Int32} {tgt : Nat} (d : decode M.2.1 pc = .ok (.tableswitch dflt lw hi offs, len)) (h : x.toInt < lw ∨ hi < x.toInt) (ht : (pc : Int) + dflt = (tgt : Int)) (k : zk G X M n cells slots tgt lo st w) : zk G X M n cells slots pc lo (.int x :: st) w :=
  fun H locs hR hS ls hl => lv_tableOut hX.1 hX.2.1 d h ht (k H locs hR hS ls hl)
theorem zk_tableIn (hX : zH G X M) {dflt lw hi : Int} {offs : Array Int} {len : Nat} {x : Int32} {off : Int} {tgt : Nat} (d : decode M.2.1 pc = .ok (.tableswitch dflt lw hi offs, len)) (h1 : ¬ x.toInt < lw) (h2 : ¬ hi < x.toInt) (ho : offs[(x.toInt - lw).toNat]? = some off) (ht : (pc : Int) + off = (tgt : Int)) (k : zk G X M n cells slots tgt lo st w) : zk G X M n cells slots pc lo (.int x :: st) w :=
  fun H locs hR hS ls hl => lv_tableIn hX.1 hX.2.1 d h1 h2 ho ht (k H locs hR hS ls hl)
theorem zk_dup (hX : zH G X M) {v : Value} (d : decode M.2.1 pc = .ok (.dup, 1)) (hv : v.category = 1) (k : zk G X M n cells slots (pc + 1) lo (v :: v :: st) w) : zk G X M n cells slots pc lo (v :: st) w :=
  fun H locs hR hS ls hl => lv_dup hX.1 hX.2.1 d (zmv_cat.trans hv) (k H locs hR hS ls hl)
theorem zk_pop (hX : zH G X M) {v : Value} (d : decode M.2.1 pc = .ok (.pop, 1)) (hv : v.category = 1) (k : zk G X M n cells slots (pc + 1) lo st w) : zk G X M n cells slots pc lo (v :: st) w :=
  fun H locs hR hS ls hl => lv_pop hX.1 hX.2.1 d (zmv_cat.trans hv) (k H locs hR hS ls hl)
theorem zk_dup2 (hX : zH G X M) {u v : Value} (d : decode M.2.1 pc = .ok (.dup2, 1)) (hu : u.category = 1) (hv : v.category = 1) (k : zk G X M n cells slots (pc + 1) lo (u :: v :: u :: v :: st) w) : zk G X M n cells slots pc lo (u :: v :: st) w :=
  fun H locs hR hS ls hl => lv_dup2_11 hX.1 hX.2.1 d (zmv_cat.trans hu) (zmv_cat.trans hv) (k H locs hR hS ls hl)
theorem zk_dup2L (hX : zH G X M) {x : Int64} (d : decode M.2.1 pc = .ok (.dup2, 1)) (k : zk G X M n cells slots (pc + 1) lo (.long x :: .long x :: st) w) : zk G X M n cells slots pc lo (.long x :: st) w :=
  fun H locs hR hS ls hl => lv_dup2_2 hX.1 hX.2.1 d rfl (k H locs hR hS ls hl)
/-! fields -/
/-- the field that own's pool has at idx is field j, of kind kd, of class c -/
def zFl (own : String) (idx c j kd : Nat) : Prop := ∃ (C : String) (T : u_T) (N : Nat), vwCl[c]? = some (C, T, N) ∧ j < N ∧ (∀ w ∈ u_ws C T N, w ∈ zTB) ∧ Cond.fieldLink own idx (T j).1 (T j).2.1 (T j).2.2.1 ∈ zTB ∧ (zfk c)[j]? = some kd
/-- the same, for writing: its type, whether it is final -/
def zPl (own : String) (idx c j kd : Nat) (ty : FieldType) (fin : Bool) : Prop := ∃ (C : String) (T : u_T) (N : Nat) (ty0 : Nat → FieldType), vwCl[c]? = some (C, T, N) ∧ j < N ∧ (∀ w ∈ u_ws C T N, w ∈ zTB) ∧ Cond.fieldLink own idx (T j).1 (T j).2.1 (T j).2.2.1 ∈ zTB ∧ (zfk c)[j]? = some kd ∧
  (∀ k, k < N → parseFieldDescriptor (T k).2.2.1 = some (ty0 k)) ∧ (∀ a, a < N → ∀ b, b < N → a ≠ b → (T a).2.1 ≠ (T b).2.1) ∧ (T j).2.2.2 = fin ∧ parseFieldDescriptor (T j).2.2.1 = some ty ∧ (fin = true → (T j).1 = own)
theorem zk_get (hX : zH G X M) {idx c j kd k : Nat} {v : Value} (d : decode M.2.1 pc = .ok (.getfield idx, 3)) (f : zFl M.1.cls idx c j kd) (hk : k < n) (hz : zsh k = (0, c, 0)) (hv : zfv G w k j kd = zmv G v) (kk : zk G X M n cells slots (pc + 3) lo (v :: st) w) : zk G X M n cells slots pc lo (.ref k :: st) w := by
  obtain ⟨C, T, N, f1, f2, f3, f4, f5⟩ := f
  intro H locs hR hS ls hl
  exact va_get (v := zmv G v) hX.1 hX.2.1 hX.2.2.2.2.1 f3 hX.2.2.2.1 hX.2.2.2.2.2.1.1 hR.2.2 k (by rw [zws_at hk, zc0 hz]) f1 j f2 (hX.2.2.2.2.1 _ f4) (fun _ h => h) (by rw [zfs_at f5, hv]) d (kk H locs hR hS ls hl)
theorem zk_getI (hX : zH G X M) {idx c j k : Nat} (d : decode M.2.1 pc = .ok (.getfield idx, 3)) (f : zFl M.1.cls idx c j 0) (hk : k < n) (hz : zsh k = (0, c, 0)) (kk : zk G X M n cells slots (pc + 3) lo (.int (w.1 k j) :: st) w) : zk G X M n cells slots pc lo (.ref k :: st) w := zk_get hX d f hk hz rfl kk
theorem zk_getL (hX : zH G X M) {idx c j k : Nat} (d : decode M.2.1 pc = .ok (.getfield idx, 3)) (f : zFl M.1.cls idx c j 1) (hk : k < n) (hz : zsh k = (0, c, 0)) (kk : zk G X M n cells slots (pc + 3) lo (.long (w.2.1 k j) :: st) w) : zk G X M n cells slots pc lo (.ref k :: st) w := zk_get hX d f hk hz rfl kk
theorem zk_getR (hX : zH G X M) {idx c j k a : Nat} (d : decode M.2.1 pc = .ok (.getfield idx, 3)) (f : zFl M.1.cls idx c j 2) (hk : k < n) (hz : zsh k = (0, c, 0)) (ha : w.2.2 k j = some a) (kk : zk G X M n cells slots (pc + 3) lo (.ref a :: st) w) : zk G X M n cells slots pc lo (.ref k :: st) w := zk_get hX d f hk hz (by simp [zfv, ha, va_rf, zmv]) kk
theorem zk_put (hX : zH G X M) {idx c j kd k : Nat} {ty : FieldType} {fin : Bool} {v : Value} {w' : zW} (d : decode M.2.1 pc = .ok (.putfield idx, 3)) (f : zPl M.1.cls idx c j kd ty fin) (hfin : fin = true → M.1.name = "<init>") (hk : k < n) (hz : zsh k = (0, c, 0)) (hn : narrow ty (zmv G v) = zmv G v) (hf : fits ty (zmv G v) = true)
    (h1 : zcell G w' k = .inr (c, (zfs G w k c).set j (zmv G v))) (h2 : ∀ a, a ≠ k → zcell G w' a = zcell G w a) (kk : zk G X M n cells slots (pc + 3) lo st w') : zk G X M n cells slots pc lo (v :: .ref k :: st) w := by
  obtain ⟨C, T, N, ty0, f1, f2, f3, f4, f5, f6, f7, f8, f9, f10⟩ := f
  intro H locs hR hS ls hl
  have hts := hX.2.2.2.2.1
  have hK := hX.2.2.2.2.2.1.1
  have hap := va_apart (own := M.1.cls) hts f3 ty0 f6 f7 hK f1
  have he : (zws G n w)[k]? = some (zB G + k, .inr (c, zfs G w k c)) := by rw [zws_at hk, zc0 hz]
  have hl9 : j < (zfs G w k c).length := by rw [zfs_len]; exact (List.getElem?_eq_some_iff.mp f5).1
  obtain ⟨r, g1, cell, q1, q2, q3, q4⟩ := hR.2.2 k _ he
  have hr : r = (C, T, N) := Option.some.inj (g1.symm.trans f1)
  subst hr
  obtain ⟨hSl, hfc, kC, hkC, hkind⟩ := hK.1 c _ f1
  obtain ⟨cf, kf, fi, fd, hi, hsl⟩ := hSl j f2
  have hst := (u_facts hfc hkC (u_lays hts f3 f2) hi).1
  have hlay := hts _ (f3 _ (u_in_lay f2))
  have fin1 : ∀ (H' : Heap), H'[zB G + k]? = some (cell.setSlot fd.slot (zmv G v)) → H'.size = H.size → (∀ q, q ≠ zB G + k → H'[q]? = H[q]?) →
      W X.1 G.1 X.2.1 (zrm M) X.2.2.1 X.2.2.2.1 X.2.2.2.2.1 X.2.2.2.2.2.1 X.2.2.2.2.2.2.1 X.2.2.2.2.2.2.2.1 H' (locs ++ [⟨zB G + k, fd.slot⟩]) cells slots X.2.2.2.2.2.2.2.2 (F0 X.2.2.2.1 (pc + 3) ls (st.map (zmv G))) := by
    intro H' e1 e2 e3
    rw [hsl] at e1 ⊢
    refine kk H' _ ⟨fun h => by rw [e2]; exact hR.1 h, hR.2.1, ?_⟩ (hS.put e2 e3 (zA_k hk hR.2.1)) ls hl
    rw [← zws_set h1 h2]
    exact hR.2.2.set (zws_D hR.2.1) he ⟨_, f1, t_OB.to (V := updV (vp_V (zfs G w k c)) j (zmv G v)) ⟨_, e1, q2, q3, t_set q4 hap f2 (zmv G v)⟩ (fun i _ => vp_updV_set hl9 (zmv G v) i)⟩ e3
  cases fin with
  | false =>
    unfold u_lay at hlay
    rw [if_neg (by rw [f8]; decide)] at hlay
    have h6 := u_store hfc hkC hkind hlay hi f9 hn hf
    exact W.putK hX.1 hX.2.1 (f := fd) ⟨hX.2.2.2.1, hts _ f4, ⟨_, _, _, hi⟩, hst⟩ (by rw [q2]; exact h6) q1 q3 (by rw [hsl]; exact k2_hasslot (q4 j f2)) rfl rfl d fin1
  | true =>
    unfold u_lay at hlay
    rw [if_pos f8] at hlay
    have hcf : X.2.2.2.1.cls = cf := by
      obtain ⟨_, _, c', _, _, _, -, -, hf', -, -, -, hown2, -⟩ := Cond.laysFinal_spec hlay
      have e1 : c' = cf := by have := hi.symm.trans hf'; simp at this; exact this.1.symm
      have e2 := f10 rfl
      try dsimp only at hown2
      rw [e2] at hown2
      rw [← e1]
      exact Option.some.inj (hX.2.2.2.1.symm.trans hown2)
    have h6 := u_fits hfc hkC hkind (Or.inr hlay) hi f9 hn hf
    exact W.putFinK hX.1 hX.2.1 hX.2.2.2.1 (hts _ f4) hi hst hcf (hX.2.2.2.2.2.2.2 (hfin rfl)) (by rw [q2]; exact h6) q1 q3 (by rw [hsl]; exact k2_hasslot (q4 j f2)) rfl rfl d fin1
theorem zk_putI (hX : zH G X M) {idx c j k : Nat} {x : Int32} {fin : Bool} {ty : FieldType} (d : decode M.2.1 pc = .ok (.putfield idx, 3)) (f : zPl M.1.cls idx c j 0 ty fin) (hfin : fin = true → M.1.name = "<init>") (hk : k < n) (hz : zsh k = (0, c, 0)) (hn : narrow ty (.int x) = .int x) (hf : fits ty (.int x) = true) (kk : zk G X M n cells slots (pc + 3) lo st (zsi w k j x)) : zk G X M n cells slots pc lo (.int x :: .ref k :: st) w :=
  zk_put hX d f hfin hk hz hn hf (zF_i hz (by obtain ⟨_, _, _, _, _, _, _, _, h, _⟩ := f; exact h)) zo_i kk
theorem zk_putL (hX : zH G X M) {idx c j k : Nat} {x : Int64} {fin : Bool} (d : decode M.2.1 pc = .ok (.putfield idx, 3)) (f : zPl M.1.cls idx c j 1 .long fin) (hfin : fin = true → M.1.name = "<init>") (hk : k < n) (hz : zsh k = (0, c, 0)) (kk : zk G X M n cells slots (pc + 3) lo st (zsl w k j x)) : zk G X M n cells slots pc lo (.long x :: .ref k :: st) w :=
  zk_put hX d f hfin hk hz rfl rfl (zF_l hz (by obtain ⟨_, _, _, _, _, _, _, _, h, _⟩ := f; exact h)) zo_l kk
theorem zk_putR (hX : zH G X M) {idx c j k a : Nat} {fin : Bool} {ty : FieldType} (d : decode M.2.1 pc = .ok (.putfield idx, 3)) (f : zPl M.1.cls idx c j 2 ty fin) (hfin : fin = true → M.1.name = "<init>") (hk : k < n) (hz : zsh k = (0, c, 0)) (hn : narrow ty (.ref (zB G + a)) = .ref (zB G + a)) (hf : fits ty (.ref (zB G + a)) = true) (kk : zk G X M n cells slots (pc + 3) lo st (zsr w k j (some a))) : zk G X M n cells slots pc lo (.ref a :: .ref k :: st) w :=
  zk_put hX d f hfin hk hz hn hf (zF_r hz (by obtain ⟨_, _, _, _, _, _, _, _, h, _⟩ := f; exact h)) zo_r kk
/-! arrays -/
theorem zk_iald (hX : zH G X M) {k L : Nat} {i : Int32} (d : decode M.2.1 pc = .ok (.iaload, 1)) (hk : k < n) (hz : zsh k = (1, 0, L)) (hi : vp_in i L) (kk : zk G X M n cells slots (pc + 1) lo (.int (w.1 k i.toNatClampNeg) :: st) w) : zk G X M n cells slots pc lo (.int i :: .ref k :: st) w :=
  fun H locs hR hS ls hl => va_iald hX.1 hX.2.1 hX.2.2.2.2.2.1.1 hR.2.2 k 0 (by rw [zws_at hk, zc1 hz]) rfl hi d (kk H locs hR hS ls hl)
theorem zk_bald (hX : zH G X M) {k L : Nat} {i : Int32} (d : decode M.2.1 pc = .ok (.baload, 1)) (hk : k < n) (hz : zsh k = (1, 1, L)) (hi : vp_in i L) (kk : zk G X M n cells slots (pc + 1) lo (.int (w.1 k i.toNatClampNeg) :: st) w) : zk G X M n cells slots pc lo (.int i :: .ref k :: st) w :=
  fun H locs hR hS ls hl => va_bald hX.1 hX.2.1 hX.2.2.2.2.2.1.1 hR.2.2 k 1 (by rw [zws_at hk, zc1 hz]) rfl hi d (kk H locs hR hS ls hl)
theorem zk_lald (hX : zH G X M) {k L : Nat} {i : Int32} (d : decode M.2.1 pc = .ok (.laload, 1)) (hk : k < n) (hz : zsh k = (2, 3, L)) (hi : vp_in i L) (kk : zk G X M n cells slots (pc + 1) lo (.long (w.2.1 k i.toNatClampNeg) :: st) w) : zk G X M n cells slots pc lo (.int i :: .ref k :: st) w :=
  fun H locs hR hS ls hl => va_lald hX.1 hX.2.1 hX.2.2.2.2.2.1.1 hR.2.2 k 3 (by rw [zws_at hk, zc2 hz]) rfl hi d (kk H locs hR hS ls hl)
theorem zk_aald (hX : zH G X M) {k t L a : Nat} {ty : FieldType} {i : Int32} (d : decode M.2.1 pc = .ok (.aaload, 1)) (hk : k < n) (hz : zsh k = (3, t, L)) (ht : (zty G.2.2.1)[t]? = some (G.2.2.1 t, ty)) (hr : ty.isReference = true) (hi : vp_in i L) (ha : w.2.2 k i.toNatClampNeg = some a) (kk : zk G X M n cells slots (pc + 1) lo (.ref a :: st) w) : zk G X M n cells slots pc lo (.int i :: .ref k :: st) w := by
  intro H locs hR hS ls hl
  have hP := hR.2.2 k _ (zws_at hk)
  rw [zc3 hz] at hP
  have hlt : i.toNatClampNeg < L := Nat.not_le.mp fun q => hi (Or.inr q)
  exact W.aald (v := .ref (zB G + a)) (ty := ty) hX.1 hX.2.1 hP ((hX.2.2.2.2.2.1.1.2 t _ ht).1 L (fun j => va_rf ((w.2.2 k j).map (zB G + ·)))) hr (fun q => by cases q) (by show ¬ (i < 0 ∨ (arrV _ _ _).slots.size ≤ _); rw [arrV_size]; exact hi) (by show (arrV _ _ _).slots[_]? = _; rw [arrV_read _ _ hlt]; simp [ha, va_rf]) rfl rfl d (kk H locs hR hS ls hl)
theorem zk_alen (hX : zH G X M) {k t L : Nat} {ty : FieldType} (d : decode M.2.1 pc = .ok (.arraylength, 1)) (hk : k < n) (hz : zsh k = (1, t, L) ∨ zsh k = (2, t, L) ∨ zsh k = (3, t, L)) (ht : (zty G.2.2.1)[t]? = some (G.2.2.1 t, ty)) (kk : zk G X M n cells slots (pc + 1) lo (.int (nI L) :: st) w) : zk G X M n cells slots pc lo (.ref k :: st) w := by
  intro H locs hR hS ls hl
  rcases hz with hz | hz | hz
  · exact va_alen (x := (L, .inl (w.1 k))) (v := nI L) hX.1 hX.2.1 hX.2.2.2.2.2.1.1 hR.2.2 k t (by rw [zws_at hk, zc1 hz]) ht rfl d (kk H locs hR hS ls hl)
  · exact va_alen (x := (L, .inr (.inl (w.2.1 k)))) (v := nI L) hX.1 hX.2.1 hX.2.2.2.2.2.1.1 hR.2.2 k t (by rw [zws_at hk, zc2 hz]) ht rfl d (kk H locs hR hS ls hl)
  · exact va_alen (x := (L, .inr (.inr (.inr (.inr (fun j => (w.2.2 k j).map (zB G + ·))))))) (v := nI L) hX.1 hX.2.1 hX.2.2.2.2.2.1.1 hR.2.2 k t (by rw [zws_at hk, zc3 hz]) ht rfl d (kk H locs hR hS ls hl)
theorem zk_iast (hX : zH G X M) {k L : Nat} {i x : Int32} (d : decode M.2.1 pc = .ok (.iastore, 1)) (hu : zUn n) (hk : k < n) (hz : zsh k = (1, 0, L)) (hi : vp_in i L) (kk : zk G X M n cells slots (pc + 1) lo st (zsi w k i.toNatClampNeg x)) : zk G X M n cells slots pc lo (.int x :: .int i :: .ref k :: st) w :=
  fun H locs hR hS ls hl => va_iast hX.1 hX.2.1 hX.2.2.2.2.2.1.1 hR.2.2 (zws_D hR.2.1) hS k 0 (by rw [zws_at hk, zc1 hz]) rfl hi d (fun H1 locs1 hP hD hS1 => kk H1 locs1 ⟨fun h => absurd hu h, hR.2.1, by rw [zws_set (zA_i hz) zo_i] at hP; exact hP⟩ hS1 ls hl)
theorem zk_bast (hX : zH G X M) {k L : Nat} {i x : Int32} (d : decode M.2.1 pc = .ok (.bastore, 1)) (hu : zUn n) (hk : k < n) (hz : zsh k = (1, 1, L)) (hi : vp_in i L) (kk : zk G X M n cells slots (pc + 1) lo st (zsi w k i.toNatClampNeg (vp_nar .byte x))) : zk G X M n cells slots pc lo (.int x :: .int i :: .ref k :: st) w :=
  fun H locs hR hS ls hl => va_bast hX.1 hX.2.1 hX.2.2.2.2.2.1.1 hR.2.2 (zws_D hR.2.1) hS k 1 (by rw [zws_at hk, zc1 hz]) rfl hi d (fun H1 locs1 hP hD hS1 => kk H1 locs1 ⟨fun h => absurd hu h, hR.2.1, by rw [zws_set (zA_i hz) zo_i] at hP; exact hP⟩ hS1 ls hl)
theorem zk_last (hX : zH G X M) {k L : Nat} {i : Int32} {x : Int64} (d : decode M.2.1 pc = .ok (.lastore, 1)) (hu : zUn n) (hk : k < n) (hz : zsh k = (2, 3, L)) (hi : vp_in i L) (kk : zk G X M n cells slots (pc + 1) lo st (zsl w k i.toNatClampNeg x)) : zk G X M n cells slots pc lo (.long x :: .int i :: .ref k :: st) w :=
  fun H locs hR hS ls hl => va_last hX.1 hX.2.1 hX.2.2.2.2.2.1.1 hR.2.2 (zws_D hR.2.1) hS k 3 (by rw [zws_at hk, zc2 hz]) rfl hi d (fun H1 locs1 hP hD hS1 => kk H1 locs1 ⟨fun h => absurd hu h, hR.2.1, by rw [zws_set (zA_l hz) zo_l] at hP; exact hP⟩ hS1 ls hl)
/-! the ends -/
theorem zq_of {aa : Array Value} {n' : Nat} {Q : Option Value → zW → Prop} {s : State} {v : Option Value} {H : Heap} {locs : List Loc} (hQ : Q v w) (hR : zRep G n' w H) (hS : va_S (zA G) s.heap H locs) : ∀ t : State, t.heap = H → s.WarmedH t.vm → zQc G n' Q aa s (.returned (v.map (zmv G))) t :=
  fun t ht _ => ⟨⟨v, w, rfl, hQ, by rw [ht]; exact hR⟩, hS.F ht⟩
theorem zk_iret {Q : Option Value → zW → Prop} {v : Int32} (hX : zH G X M) (hE : zR G X M n Q) (hr : M.2.2.2.1 = some .int) (hc : cells = M.2.2.2.2.2.2.1 ∧ slots = M.2.2.2.2.2.2.2) (d : decode M.2.1 pc = .ok (.ireturn, 1)) (hQ : Q (some (.int v)) w) : zk G X M n cells slots pc lo [.int v] w := by
  intro H locs hR hS ls hl
  obtain ⟨e1, e2, e3⟩ := hE
  obtain ⟨rfl, rfl⟩ := hc
  rw [e1]
  exact W.iret hX.1 hX.2.1 (e2.trans hr) (zq_of hQ hR hS) hS.2.2 d e3
theorem zk_zret {Q : Option Value → zW → Prop} {v : Int32} {ty : FieldType} (hX : zH G X M) (hE : zR G X M n Q) (hr : M.2.2.2.1 = some ty) (hc : cells = M.2.2.2.2.2.2.1 ∧ slots = M.2.2.2.2.2.2.2) (d : decode M.2.1 pc = .ok (.ireturn, 1)) (hn : narrow ty (.int v) = .int v) (hQ : Q (some (.int v)) w) : zk G X M n cells slots pc lo [.int v] w := by
  intro H locs hR hS ls hl
  obtain ⟨e1, e2, e3⟩ := hE
  obtain ⟨rfl, rfl⟩ := hc
  rw [e1]
  exact W.zret hX.1 hX.2.1 (e2.trans hr) hn (zq_of hQ hR hS) hS.2.2 d e3
theorem zk_lret {Q : Option Value → zW → Prop} {v : Int64} (hX : zH G X M) (hE : zR G X M n Q) (hr : M.2.2.2.1 = some .long) (hc : cells = M.2.2.2.2.2.2.1 ∧ slots = M.2.2.2.2.2.2.2) (d : decode M.2.1 pc = .ok (.lreturn, 1)) (hQ : Q (some (.long v)) w) : zk G X M n cells slots pc lo [.long v] w := by
  intro H locs hR hS ls hl
  obtain ⟨e1, e2, e3⟩ := hE
  obtain ⟨rfl, rfl⟩ := hc
  rw [e1]
  exact W.lret hX.1 hX.2.1 (e2.trans hr) (zq_of hQ hR hS) hS.2.2 d e3
theorem zk_vret {Q : Option Value → zW → Prop} (hX : zH G X M) (hE : zR G X M n Q) (hr : M.2.2.2.1 = none) (hc : cells = M.2.2.2.2.2.2.1 ∧ slots = M.2.2.2.2.2.2.2) (d : decode M.2.1 pc = .ok (.return_, 1)) (hQ : Q none w) : zk G X M n cells slots pc lo [] w := by
  intro H locs hR hS ls hl
  obtain ⟨e1, e2, e3⟩ := hE
  obtain ⟨rfl, rfl⟩ := hc
  rw [e1]
  exact W.vret hX.1 hX.2.1 (e2.trans hr) (zq_of (v := none) hQ hR hS) hS.2.2 d e3
end ZR

/-! calls -/
/-- a callee's words: its code, its class, how many arguments (the receiver apart) -/
def zCal (M : zM) (a : Nat) : Prop := Cond.code M.1 M.2.1 M.2.2.1 M.2.2.2.1 ∈ zTB ∧ Cond.initialized M.1.cls ∈ zTB ∧ (M.1.cls ≠ "java/lang/invoke/MethodHandle" ∧ M.1.cls ≠ "java/lang/invoke/VarHandle" ∧ (parseMethodDescriptor M.1.desc).map (fun d => d.parameters.length) = some a) ∧ plainName M.1.cls = true
def zVir (M : zM) (c : Nat) : Prop := Cond.instanceMethod M.1 ∈ zTB ∧ Cond.selects M.1.cls M.1 M.1 ∈ zTB ∧ ∃ T N, vwCl[c]? = some (M.1.cls, T, N)
def zRoom (M M' : zM) : Bool := Nat.ble (M'.2.2.2.2.1 + 1) M.2.2.2.2.1 && Nat.ble (8 + (M'.2.2.1 + 11) + M'.2.2.2.2.2.1) M.2.2.2.2.2.1
theorem zRoom_ok {M M' : zM} (h : zRoom M M' = true) : M'.2.2.2.2.1 + 1 ≤ M.2.2.2.2.1 ∧ 8 + (M'.2.2.1 + 11) + M'.2.2.2.2.2.1 ≤ M.2.2.2.2.2.1 := by
  unfold zRoom at h
  rw [Bool.and_eq_true] at h
  exact ⟨Nat.le_of_ble_eq_true h.1, Nat.le_of_ble_eq_true h.2⟩
theorem zWs_good {M : zM} {a : Nat} (h : zCal M a) : GoodIn zTB (zWs M) := by
  intro w hw
  rcases List.mem_cons.mp hw with rfl | hw
  · exact ⟨h.1, zgood' h.1⟩
  · exact zgood w hw
theorem zcat {G : zG} {st : List Value} : ((st.map (zmv G)).map fun v => v.category) = st.map (fun v => v.category) := by
  rw [List.map_map]
  exact List.map_congr_left fun v _ => zmv_cat
theorem zsl_len {G : zG} : ∀ (args : List Value), (lg_sl (args.map (zmv G))).length = (args.map fun v => v.category).sum
  | [] => rfl
  | v :: r => by
    have ih := zsl_len (G := G) r
    unfold lg_sl at ih ⊢
    simp only [List.map_cons, List.flatMap_cons, List.length_append, List.sum_cons, ih, zmv_cat]
    rcases lv_cat v with h | h <;> simp [h]
theorem zlo_in {G : zG} : ∀ (args : List Value) (i k : Nat) (v : Value), (zlo args)[k]? = some v → v ≠ .null → (i + k, zmv G v) ∈ lv_args i (args.map (zmv G))
  | [], i, k, v, h, _ => by simp [zlo] at h
  | a :: r, i, k, v, h, hv => by
    have step : ∀ c : Nat, zlo (a :: r) = a :: (if c = 2 then .null :: zlo r else zlo r) → a.category = c → (i + k, zmv G v) ∈ lv_args i ((a :: r).map (zmv G)) := by
      intro c e hc
      rw [e] at h
      simp only [List.map_cons, lv_args, zmv_cat, hc]
      cases k with
      | zero =>
        simp at h
        subst h
        exact List.mem_cons_self
      | succ k =>
        rw [List.getElem?_cons_succ] at h
        refine List.mem_cons_of_mem _ ?_
        by_cases h2 : c = 2
        · subst h2
          rw [if_pos rfl] at h
          cases k with
          | zero =>
            simp at h
            exact absurd h.symm hv
          | succ k =>
            rw [List.getElem?_cons_succ] at h
            have := zlo_in (G := G) r (i + 2) k v h hv
            rwa [show i + 2 + k = i + (k + 1 + 1) by omega] at this
        · rw [if_neg h2] at h
          have h1 : c = 1 := by rcases lv_cat a with q | q <;> omega
          subst h1
          have := zlo_in (G := G) r (i + 1) k v h hv
          rwa [show i + 1 + k = i + (k + 1) by omega] at this
    cases a with
    | long x => exact step 2 (by simp [zlo]) rfl
    | double x => exact step 2 (by simp [zlo]) rfl
    | int x => exact step 1 (by simp [zlo]) rfl
    | float x => exact step 1 (by simp [zlo]) rfl
    | null => exact step 1 (by simp [zlo]) rfl
    | ref x => exact step 1 (by simp [zlo]) rfl
    | retAddr x => exact step 1 (by simp [zlo]) rfl
section ZC
variable {G : zG} {X : zX} {M M' : zM} {n n1 cells slots pc : Nat} {lo st st0 : List Value} {w : zW} {Q1 : Option Value → zW → Prop}
theorem zk_fin {ls : Array Slot} {H : Heap} {locs : List Loc} {aa : Array Value} {st0 : List Value}
    (hr : va_Run X.1 G.1 X.2.1 (zrm M) X.2.2.1 X.2.2.2.1 X.2.2.2.2.1 X.2.2.2.2.2.1 X.2.2.2.2.2.2.1 X.2.2.2.2.2.2.2.1 H locs cells slots M'.2.2.2.2.2.2.1 M'.2.2.2.2.2.2.2 (F0 X.2.2.2.1 pc ls st0) (st.map (zmv G)) (zQc G n1 Q1 aa) (zA G))
    (hS : va_S (zA G) X.2.2.1.heap H locs) (hl : zL G M.2.2.1 ls lo)
    (kk : ∀ v w1, Q1 v w1 → zk G X M n1 (cells + M'.2.2.2.2.2.2.1) (slots + M'.2.2.2.2.2.2.2) (pc + 3) lo (v.toList ++ st) w1) :
    W X.1 G.1 X.2.1 (zrm M) X.2.2.1 X.2.2.2.1 X.2.2.2.2.1 X.2.2.2.2.2.1 X.2.2.2.2.2.2.1 X.2.2.2.2.2.2.2.1 H locs cells slots X.2.2.2.2.2.2.2.2 (F0 X.2.2.2.1 pc ls st0) := by
  intro T hT Xs
  obtain ⟨v, st₀, t, T', L, h0, X', hL, e1, e2, ⟨⟨r, w1, hv, hq, hrep⟩, hz, hk⟩, st9⟩ := hr T hT Xs
  have hv := Outcome.returned.inj hv
  subst hv
  rw [h0] at hz hk
  have hS1 : va_S (zA G) X.2.2.1.heap T'.heap (locs ++ L) := ⟨Nat.le_trans hS.1 (by rw [e1]; exact hz), fun q h1 h2 => by rw [e1, hk q (Nat.lt_of_lt_of_le h1 hS.1) h2]; exact hS.2.1 q h1 h2, fun q hq9 => by
    rcases List.mem_append.mp hq9 with h | h
    · exact hS.2.2 q h
    · exact hL q h⟩
  obtain ⟨t2, a1, b1⟩ := kk r w1 hq T'.heap (locs ++ L) (by rw [e1]; exact hrep) hS1 ls hl T' rfl X'
  refine ⟨t2, st9 t2 ?_, b1⟩
  have e9 : (r.map (zmv G)).toList ++ st.map (zmv G) = (r.toList ++ st).map (zmv G) := by cases r <;> rfl
  show Steps _ _ _ (T'.setTop { (F0 X.2.2.2.1 pc ls st0) with pc := pc + 3, stack := (r.map (zmv G)).toList ++ st.map (zmv G) }) _
  rw [e9]
  exact a1
theorem zPc_of (hX : zH G X M) {H : Heap} {locs : List Loc} {args : List Value} (hR : zRep G n w H) (hS : va_S (zA G) X.2.2.1.heap H locs) : ∀ U : State, U.heap = H → X.2.2.1.WarmedH U.vm → zPc G args n w (args.map (zmv G)).toArray U :=
  fun U hU hW => ⟨rfl, by rw [hU]; exact hR, hX.2.2.2.2.2.1.go hS hU hW⟩
theorem zk_callV (hX : zH G X M) {idx c k a : Nat} {As : List Value} (d : decode M.2.1 pc = .ok (.invokevirtual idx, 3)) (hy : zCal M' a) (hm : Cond.methodLink M.1.cls idx M'.1 ∈ zTB) (hv : zVir M' c) (hr : zRoom M M' = true) (hk : k < n) (hz : zsh k = (0, c, 0)) (hC : zC G M' (.ref k :: As) n w n1 Q1) (ha : As.length = a) (hst : st0 = As.reverse ++ .ref k :: st)
    (hw : (st.map fun v => v.category).sum ≤ 8) (hf : cells + M'.2.2.2.2.2.2.1 ≤ M.2.2.2.2.2.2.1 ∧ slots + M'.2.2.2.2.2.2.2 ≤ M.2.2.2.2.2.2.2)
    (kk : ∀ v w1, Q1 v w1 → zk G X M n1 (cells + M'.2.2.2.2.2.2.1) (slots + M'.2.2.2.2.2.2.2) (pc + 3) lo (v.toList ++ st) w1) : zk G X M n cells slots pc lo st0 w := by
  intro H locs hR hS ls hl
  obtain ⟨v1, v2, T, N, v3⟩ := hv
  have hts := hX.2.2.2.2.1
  have hK := hX.2.2.2.2.2.1.1
  subst hst
  refine zk_fin (M' := M') (va_runV (As := As.map (zmv G)) (rest := st.map (zmv G)) (n := a) ⟨hX.1, hX.2.1, hX.2.2.1, hX.2.2.2.1, hts⟩ hC ⟨callB_of a hts (zWs_good hy) rfl rfl rfl (hts _ hy.2.1) (hts _ hm) hy.2.2.1 (zRoom_ok hr), hts _ v1, hts _ v2⟩
    ⟨zC.blind, va_recv hK hR.2.2 v3 (by rw [zws_at hk, zc0 hz]), zPc_of hX hR hS⟩ rfl (by rw [List.length_map]; exact ha) hl.1 (by simp [zmv]) (lv_room (by rw [zcat]; exact hw)) d hf) hS hl kk
theorem zk_callS (hX : zH G X M) {idx a : Nat} {As : List Value} (d : decode M.2.1 pc = .ok (.invokestatic idx, 3)) (hy : zCal M' a) (hm : Cond.methodLink M.1.cls idx M'.1 ∈ zTB) (hv : Cond.static M'.1 ∈ zTB) (hr : zRoom M M' = true) (hC : zC G M' As n w n1 Q1) (ha : As.length = a) (hst : st0 = As.reverse ++ st)
    (hw : (st.map fun v => v.category).sum ≤ 8) (hf : cells + M'.2.2.2.2.2.2.1 ≤ M.2.2.2.2.2.2.1 ∧ slots + M'.2.2.2.2.2.2.2 ≤ M.2.2.2.2.2.2.2)
    (kk : ∀ v w1, Q1 v w1 → zk G X M n1 (cells + M'.2.2.2.2.2.2.1) (slots + M'.2.2.2.2.2.2.2) (pc + 3) lo (v.toList ++ st) w1) : zk G X M n cells slots pc lo st0 w := by
  intro H locs hR hS ls hl
  have hts := hX.2.2.2.2.1
  subst hst
  refine zk_fin (M' := M') (va_runS (As := As.map (zmv G)) (rest := st.map (zmv G)) (n := a) ⟨hX.1, hX.2.1, hX.2.2.1, hX.2.2.2.1, hts⟩ hC ⟨callB_of a hts (zWs_good hy) rfl rfl rfl (hts _ hy.2.1) (hts _ hm) hy.2.2.1 (zRoom_ok hr), hts _ hv⟩
    ⟨zC.blind, zPc_of hX hR hS⟩ rfl (by rw [List.length_map]; exact ha) hl.1 (by simp) (lv_room (by rw [zcat]; exact hw)) d hf) hS hl kk
theorem zk_callSN (hX : zH G X M) {idx a : Nat} {host : String} {As : List Value} (d : decode M.2.1 pc = .ok (.invokestatic idx, 3)) (hy : zCal M' a) (hm : (M.1.cls, idx, M'.1, host) ∈ zNst) (hv : Cond.static M'.1 ∈ zTB) (hr : zRoom M M' = true) (hC : zC G M' As n w n1 Q1) (ha : As.length = a) (hst : st0 = As.reverse ++ st)
    (hw : (st.map fun v => v.category).sum ≤ 8) (hf : cells + M'.2.2.2.2.2.2.1 ≤ M.2.2.2.2.2.2.1 ∧ slots + M'.2.2.2.2.2.2.2 ≤ M.2.2.2.2.2.2.2)
    (kk : ∀ v w1, Q1 v w1 → zk G X M n1 (cells + M'.2.2.2.2.2.2.1) (slots + M'.2.2.2.2.2.2.2) (pc + 3) lo (v.toList ++ st) w1) : zk G X M n cells slots pc lo st0 w := by
  intro H locs hR hS ls hl
  have hts := hX.2.2.2.2.1
  subst hst
  refine zk_fin (M' := M') (va_runSN (As := As.map (zmv G)) (rest := st.map (zmv G)) (n := a) ⟨hX.1, hX.2.1, hX.2.2.1, hX.2.2.2.1, hts⟩ hC ⟨va_cnB a hts (zWs_good hy) rfl rfl rfl (hX.2.2.2.2.2.1.2.1.2.2.1 _ hm) (hts _ hy.2.1) hy.2.2.1 (zRoom_ok hr), hts _ hv, trivial⟩
    ⟨zC.blind, zPc_of hX hR hS⟩ rfl (by rw [List.length_map]; exact ha) hl.1 (by simp) (lv_room (by rw [zcat]; exact hw)) d hf) hS hl kk
theorem zk_callI (hX : zH G X M) {idx k a : Nat} {As : List Value} (d : decode M.2.1 pc = .ok (.invokespecial idx, 3)) (hy : zCal M' a) (hm : Cond.methodLink M.1.cls idx M'.1 ∈ zTB) (hi : Cond.instanceMethod M'.1 ∈ zTB) (hn : M'.1.name = "<init>" ∧ M'.2.2.2.1 = none) (hr : zRoom M M' = true) (hC : zC G M' (.ref k :: As) n w n1 Q1) (ha : As.length = a) (hst : st0 = As.reverse ++ .ref k :: st)
    (hw : (st.map fun v => v.category).sum ≤ 8) (hf : cells + M'.2.2.2.2.2.2.1 ≤ M.2.2.2.2.2.2.1 ∧ slots + M'.2.2.2.2.2.2.2 ≤ M.2.2.2.2.2.2.2)
    (kk : ∀ v w1, Q1 v w1 → zk G X M n1 (cells + M'.2.2.2.2.2.2.1) (slots + M'.2.2.2.2.2.2.2) (pc + 3) lo (v.toList ++ st) w1) : zk G X M n cells slots pc lo st0 w := by
  intro H locs hR hS ls hl
  have hts := hX.2.2.2.2.1
  subst hst
  obtain ⟨hn1, hn2⟩ := hn
  refine zk_fin (M' := M') (va_runI (As := As.map (zmv G)) (rest := st.map (zmv G)) (n := a) (ws := zWs M') (rm := zrm M') (bytes := M'.2.1) (maxL := M'.2.2.1) (y := M'.1) ⟨hX.1, hX.2.1, hX.2.2.1, hX.2.2.2.1, hts⟩ hC ⟨callB_of a hts (zWs_good hy) (by unfold zWs; rw [hn2]) rfl rfl (hts _ hy.2.1) (hts _ hm) hy.2.2.1 (zRoom_ok hr), hn1, hts _ hi⟩
    ⟨zC.blind, zPc_of (args := .ref k :: As) hX hR hS⟩ rfl (by rw [List.length_map]; exact ha) hl.1 (by simp [zmv]) (lv_room (by rw [zcat]; exact hw)) d hf) hS hl kk
theorem zk_callIN (hX : zH G X M) {idx k a : Nat} {host : String} {As : List Value} (d : decode M.2.1 pc = .ok (.invokespecial idx, 3)) (hy : zCal M' a) (hm : (M.1.cls, idx, M'.1, host) ∈ zNst) (hi : Cond.instanceMethod M'.1 ∈ zTB) (hn : M'.1.name = "<init>" ∧ M'.2.2.2.1 = none) (hr : zRoom M M' = true) (hC : zC G M' (.ref k :: As) n w n1 Q1) (ha : As.length = a) (hst : st0 = As.reverse ++ .ref k :: st)
    (hw : (st.map fun v => v.category).sum ≤ 8) (hf : cells + M'.2.2.2.2.2.2.1 ≤ M.2.2.2.2.2.2.1 ∧ slots + M'.2.2.2.2.2.2.2 ≤ M.2.2.2.2.2.2.2)
    (kk : ∀ v w1, Q1 v w1 → zk G X M n1 (cells + M'.2.2.2.2.2.2.1) (slots + M'.2.2.2.2.2.2.2) (pc + 3) lo (v.toList ++ st) w1) : zk G X M n cells slots pc lo st0 w := by
  intro H locs hR hS ls hl
  have hts := hX.2.2.2.2.1
  subst hst
  obtain ⟨hn1, hn2⟩ := hn
  refine zk_fin (M' := M') (va_runIN (As := As.map (zmv G)) (rest := st.map (zmv G)) (n := a) (ws := zWs M') (rm := zrm M') (bytes := M'.2.1) (maxL := M'.2.2.1) (y := M'.1) ⟨hX.1, hX.2.1, hX.2.2.1, hX.2.2.2.1, hts⟩ hC ⟨va_cnB (ret := none) a hts (zWs_good hy) (by unfold zWs; rw [hn2]) rfl rfl (hX.2.2.2.2.2.1.2.1.2.2.1 _ hm) (hts _ hy.2.1) hy.2.2.1 (zRoom_ok hr), hn1, hts _ hi⟩
    ⟨zC.blind, zPc_of (args := .ref k :: As) hX hR hS⟩ rfl (by rw [List.length_map]; exact ha) hl.1 (by simp [zmv]) (lv_room (by rw [zcat]; exact hw)) d hf) hS hl kk
theorem zk_objInit (hX : zH G X M) {idx k : Nat} (d : decode M.2.1 pc = .ok (.invokespecial idx, 3)) (h1 : Cond.methodLink M.1.cls idx Lib.objectInit ∈ zTB) (h2 : Cond.instanceMethod Lib.objectInit ∈ zTB) (h3 : Cond.code Lib.objectInit ⟨#[0xb1]⟩ 1 none ∈ zTB) (hf : 1 ≤ M.2.2.2.2.1) (hw : (st.map fun v => v.category).sum + 12 ≤ M.2.2.2.2.2.1)
    (kk : zk G X M n cells slots (pc + 3) lo st w) : zk G X M n cells slots pc lo (.ref k :: st) w := by
  intro H locs hR hS ls hl
  have hts := hX.2.2.2.2.1
  refine W.objInit hX.1 hX.2.1 hX.2.2.2.1 (hts _ h1) (hts _ h2) (hts _ h3) rfl (hl.1.trans hX.2.2.1.symm) rfl d hf ?_ (kk H locs hR hS ls hl)
  rw [zcat]
  show 2 * 0 + _ + 12 ≤ M.2.2.2.2.2.1
  omega
/-- the law's script -/
def zScr (G : zG) (U : State) (L : Nat) (xs : Nat → Int32) : Prop := va_X (G.2.2.2.2 0) L xs U U.heap ∧ G.2.2.2.2 0 < U.heap.size ∧ ¬ zA G (G.2.2.2.2 0)
theorem zk_sld (hX : zH G X M) {L : Nat} {xs : Nat → Int32} {i : Int32} (hs : zScr G X.2.2.1 L xs) (d : decode M.2.1 pc = .ok (.iaload, 1)) (hi : vp_in i L) (kk : zk G X M n cells slots (pc + 1) lo (.int (xs i.toNatClampNeg) :: st) w) : zk G X M n cells slots pc lo (.int i :: .float 0 :: st) w :=
  fun H locs hR hS ls hl => va_sld (A := zA G) hX.1 hX.2.1 hs.1 hs.2.1 hs.2.2 hS hi d (kk H locs hR hS ls hl)
theorem zk_slen (hX : zH G X M) {L : Nat} {xs : Nat → Int32} (hs : zScr G X.2.2.1 L xs) (d : decode M.2.1 pc = .ok (.arraylength, 1)) (kk : zk G X M n cells slots (pc + 1) lo (.int (nI L) :: st) w) : zk G X M n cells slots pc lo (.float 0 :: st) w :=
  fun H locs hR hS ls hl => va_slen (A := zA G) hX.1 hX.2.1 hs.1 hs.2.1 hs.2.2 hS d (kk H locs hR hS ls hl)
theorem zk_getsX (hX : zH G X M) {idx : Nat} (d : decode M.2.1 pc = .ok (.getstatic idx, 3)) (hf : Cond.fieldLink M.1.cls idx "HandBeasts$Hands" "STEP_X" "[I" ∈ zTB) (kk : zk G X M n cells slots (pc + 3) lo (.float 1 :: st) w) : zk G X M n cells slots pc lo st w :=
  fun H locs hR hS ls hl => va_gets hX.1 hX.2.1 hX.2.2.2.2.2.1.2.1.1.1 hS hX.2.2.2.1 (hX.2.2.2.2.1 _ hf) (fun _ h => h) d (kk H locs hR hS ls hl)
theorem zk_getsY (hX : zH G X M) {idx : Nat} (d : decode M.2.1 pc = .ok (.getstatic idx, 3)) (hf : Cond.fieldLink M.1.cls idx "HandBeasts$Hands" "STEP_Y" "[I" ∈ zTB) (kk : zk G X M n cells slots (pc + 3) lo (.float 2 :: st) w) : zk G X M n cells slots pc lo st w :=
  fun H locs hR hS ls hl => va_gets hX.1 hX.2.1 hX.2.2.2.2.2.1.2.1.2.1.1 hS hX.2.2.2.1 (hX.2.2.2.2.1 _ hf) (fun _ h => h) d (kk H locs hR hS ls hl)
theorem zk_tldX (hX : zH G X M) {i : Int32} (d : decode M.2.1 pc = .ok (.iaload, 1)) (hi : vp_in i 8) (kk : zk G X M n cells slots (pc + 1) lo (.int (zsX i.toNatClampNeg) :: st) w) : zk G X M n cells slots pc lo (.int i :: .float 1 :: st) w :=
  fun H locs hR hS ls hl => va_ti hX.1 hX.2.1 hX.2.2.2.2.2.1.2.1.1.2 hS hi rfl d (kk H locs hR hS ls hl)
theorem zk_tldY (hX : zH G X M) {i : Int32} (d : decode M.2.1 pc = .ok (.iaload, 1)) (hi : vp_in i 8) (kk : zk G X M n cells slots (pc + 1) lo (.int (zsY i.toNatClampNeg) :: st) w) : zk G X M n cells slots pc lo (.int i :: .float 2 :: st) w :=
  fun H locs hR hS ls hl => va_ti hX.1 hX.2.1 hX.2.2.2.2.2.1.2.1.2.1.2 hS hi rfl d (kk H locs hR hS ls hl)
/-- a method by its body -/
theorem zC.of {args : List Value} {n' : Nat} {Q : Option Value → zW → Prop} {a : Nat} (hy : zCal M a)
    (hN : (args.map fun v => v.category).sum ≤ M.2.2.1)
    (body : ∀ X : zX, zH G X M → zR G X M n' Q → zk G X M n 0 0 0 (zlo args) [] w) : zC G M args n w n' Q := by
  refine Met.ofW (cc := M.2.1) (maxL := M.2.2.1) (ret := M.2.2.2.1) hy.2.2.2 rfl ?_
  intro p e s m args9 below meth c s₁ B hml hv
  obtain ⟨rfl, hR, hK⟩ := hv
  have hts := atoms_spec (ws := zWs M) B.pre
  have hown : s.vm.findClass M.1.cls = some m.cls := findClass_of_methodNamed B.named
  have key := body (p, e, s, m, (args.map (zmv G)).toArray, below, meth, c, MQ below (zQc G n' Q) (args.map (zmv G)).toArray s M.2.2.2.2.2.2.1 M.2.2.2.2.2.2.2 (zA G)) ⟨B.exec, B.bytes, hml, hown, fun w hw => hts w (List.mem_cons_of_mem _ hw), hK, hK.2.2.1, fun h => (name_of_methodNamed B.named B.method).1.trans h⟩ ⟨rfl, B.returns, B.notSynchronized⟩
  have hl := lv_entry (args.map (zmv G)) (n := M.2.2.1) (by rw [zsl_len]; exact hN)
  rw [lg_entry_eq]
  exact key s.heap [] hR va_S.rf _ ⟨hl.1, hl.2.1, fun k v hk hv => hl.2.2 (k, zmv G v) (by have := zlo_in (G := G) args 0 k v hk hv; rwa [Nat.zero_add] at this)⟩
end ZC

