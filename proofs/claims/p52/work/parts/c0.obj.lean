/-! what stands of one object, and its answers -/
theorem zcd_c {sp d d' : Nat → Nat} : ∀ {m : Nat}, (∀ j, j < m → d j = d' j) → zcd sp d m = zcd sp d' m
  | 0, _ => rfl
  | m + 1, h => by
    show zcd sp d m * sp m + d m = zcd sp d' m * sp m + d' m
    rw [zcd_c (fun j hj => h j (by omega)), h m (Nat.lt_succ_self m)]
theorem zcd_dg {sp : Nat → Nat} : ∀ {m c : Nat}, c < zpr sp m → zcd sp (zdg sp m c) m = c
  | 0, c, h => by
    have h : c < 1 := h
    show 0 = c
    omega
  | m + 1, c, h => by
    have h : c < zpr sp m * sp m := h
    have hs : 0 < sp m := by
      rcases Nat.eq_zero_or_pos (sp m) with e | e
      · rw [e, Nat.mul_zero] at h
        exact absurd h (Nat.not_lt_zero _)
      · exact e
    have hq : c / sp m < zpr sp m := Nat.div_lt_of_lt_mul (by rw [Nat.mul_comm]; exact h)
    show zcd sp (zdg sp (m + 1) c) m * sp m + zdg sp (m + 1) c m = c
    have e1 : zcd sp (zdg sp (m + 1) c) m = zcd sp (zdg sp m (c / sp m)) m := zcd_c (fun j hj => by
      show (if j = m then _ else _) = _
      exact if_neg (by omega))
    have e2 : zdg sp (m + 1) c m = c % sp m := by
      show (if m = m then _ else _) = _
      exact if_pos rfl
    rw [e1, e2, zcd_dg hq, Nat.mul_comm]
    exact Nat.div_add_mod c (sp m)
/-- the cells of poses -/
def kPo : List Nat := [47, 48, 49, 50, 51, 52, 53, 54, 55, 56, 57, 58, 59, 60, 61, 62, 63, 64, 65, 66, 67, 68, 69, 70, 71, 72, 73, 74, 75, 76, 77, 78, 79, 80, 81, 82, 83, 84, 85, 86, 87, 88, 89, 90, 91, 92, 93, 94]
theorem kPo_m {a : Nat} (h1 : 47 ≤ a) (h2 : a ≤ 94) : a ∈ kPo := by
  simp [kPo]
  omega
def KI : List Nat := [0, 26, 27, 28, 29, 30, 31, 32, 33, 34, 44, 96, 131, 132, 133, 134, 139, 140]
def KL : List Nat := [97, 98, 135, 136, 141, 142]
def Ob (w : zW) (D : zD) (M Y : zS) (T : Nat) : Prop := zWf w ∧ (zDok D ∧ zpr (zsp D) (dJ D) ≤ 4096) ∧ cHd w 26 D ∧ cRe w D ∧ zLm w 44 1 3 3 ∧ (T ≤ 99 ∧ w.1 0 8 = nI T) ∧ ¬ w.1 96 3 = 0 ∧ cBe w 0 M Y
theorem zFx_r {A B F : List Nat} {w w' : zW} (h : zFr A B F w w') : zFx A B F w w' := ⟨h.2.1, h.2.2.1, h.2.2.2⟩
theorem Ob_f {w w' : zW} {D : zD} {M Y : zS} {T : Nat} {A B : List Nat} (h : Ob w D M Y T) (hF : zFr A B [] w w') (k : (okc KI A && okc KL B) = true) : Ob w' D M Y T := by
  rw [Bool.and_eq_true] at k
  obtain ⟨k1, k2⟩ := k
  obtain ⟨h1, h2, h3, h4, h5, h6, h7, h8⟩ := h
  have e : ∀ a, a ∈ KI → a ≠ 166 → w'.1 a = w.1 a := fun a ha h9 => hF.2.1 a (okc_m k1 ha) h9
  have e2 : ∀ a, a ∈ KL → w'.2.1 a = w.2.1 a := fun a ha => hF.2.2.1 a (okc_m k2 ha)
  refine ⟨zFr_wf hF h1, h2, cHd_o h3 (fun a q1 q2 => e a (by simp [KI]; omega) (by omega)), ?_, ?_, ⟨h6.1, ?_⟩, ?_, ?_⟩
  · unfold cRe cStep cOwn cOwn1 cRow
    rw [e 131 (by decide) (by decide), e 132 (by decide) (by decide), e 133 (by decide) (by decide), e 134 (by decide) (by decide), e 139 (by decide) (by decide), e 140 (by decide) (by decide), e2 135 (by decide), e2 136 (by decide), e2 141 (by decide), e2 142 (by decide)]
    exact h4
  · unfold zLm
    rw [e 44 (by decide) (by decide)]
    exact h5
  · rw [e 0 (by decide) (by decide)]
    exact h6.2
  · rw [e 96 (by decide) (by decide)]
    exact h7
  · exact ⟨zHas_o h8.1 (e2 97 (by decide)), zHas_o h8.2 (e2 98 (by decide))⟩
/-- what the asking calls may change: what was told, rows 2, 3 and 5, scratch -/
def SI : List Nat := [1, 2, 8, 9, 10, 11, 14, 15, 45, 147, 148, 149]
def SL : List Nat := [137, 138, 143, 144, 146, 163, 164, 165]
def Sc (w w' : zW) : Prop := zFr SI SL [] w w'
theorem Sc_t {w w1 w2 : zW} (h : Sc w w1) (h2 : Sc w1 w2) : Sc w w2 := zFr_t h h2
theorem Sc_r (w : zW) : Sc w w := ⟨rfl, fun _ _ _ => rfl, fun _ _ => rfl, fun _ _ => rfl⟩
theorem Sc_o {w w' : zW} {D : zD} {M Y : zS} {T : Nat} (h : Ob w D M Y T) (hF : Sc w w') : Ob w' D M Y T := Ob_f h hF (by decide +kernel)
theorem Sc_1 {w : zW} {x : Int32} : Sc w (zsi w 1 0 x) := zFr_i (by decide) (by decide)
theorem zCi_m {G : zG} {Mm : zM} {as : List Value} {w : zW} {Q Q' : Int32 → zW → Prop} (h : zCi G Mm as w Q) (hq : ∀ r w', Q r w' → Q' r w') : zCi G Mm as w Q' := zC.mono h (fun v w' q => by obtain ⟨r, e, q⟩ := q; exact ⟨r, e, hq r w' q⟩)
theorem zEi_c {G : zG} {Mm : zM} {as : List Value} {w w1 : zW} {r : Int32} {Q : Int32 → zW → Prop} (h : zEi G Mm as w r w1) (hq : Q r w1) : zCi G Mm as w Q := zCi_m h (fun r' w' q => by rw [q.1, q.2]; exact hq)
/-- the same, and row 5 stands -/
def SI5 : List Nat := [1, 2, 8, 9, 10, 11, 45, 147, 148, 149]
def S5 (w w' : zW) : Prop := zFr SI5 SL [] w w'
theorem S5_t {w w1 w2 : zW} (h : S5 w w1) (h2 : S5 w1 w2) : S5 w w2 := zFr_t h h2
theorem S5_c {w w' : zW} (h : S5 w w') : Sc w w' := zFr_s h (by decide +kernel)
theorem S5_1 {w : zW} {x : Int32} : S5 w (zsi w 1 0 x) := zFr_i (by decide) (by decide)
section OB
variable {G : zG} {w : zW} {D : zD} {M Y : zS} {T : Nat}
theorem Ob_tab (h : Ob w D M Y T) : cTab w D (-1) ∧ w.1 131 0 = 0 := by
  obtain ⟨h1, ⟨h2, h3⟩, h4, h5, -⟩ := h
  obtain ⟨-, -, e1, e2⟩ := h5
  obtain ⟨e3, e4⟩ := e2 h3
  exact ⟨⟨e3, e4, by rw [zN_code h2]; exact h3⟩, by rw [e1, if_neg (by omega)]⟩
theorem Ob_s {v : Nat} (h : Ob w D M Y T) (hv : v ≤ 99) : Ob (zsi w 0 8 (nI v)) D M Y v := by
  obtain ⟨h1, h2, h3, h4, h5, h6, h7, h8⟩ := h
  have e : ∀ a, a ≠ 0 → (zsi w 0 8 (nI v)).1 a = w.1 a := fun a ha => by
    funext i
    rw [zsi_1, if_neg (fun q => ha q.1)]
  refine ⟨h1, h2, cHd_o h3 (fun a q1 q2 => e a (by omega)), ?_, ?_, ⟨hv, ?_⟩, ?_, h8⟩
  · unfold cRe cStep cOwn cOwn1 cRow
    rw [e 131 (by decide), e 132 (by decide), e 133 (by decide), e 134 (by decide), e 139 (by decide), e 140 (by decide)]
    exact h4
  · unfold zLm
    rw [e 44 (by decide)]
    exact h5
  · rw [zsi_1, if_pos ⟨rfl, rfl⟩]
  · rw [e 96 (by decide)]
    exact h7
theorem o_strain {v : Nat} (h : Ob w D M Y T) (hv : v ≤ 99) : zCi G mX11_strain [.ref 0, .int (nI v)] w (fun r w' => r = nI T ∧ w' = zsi w 0 8 (nI v)) := by
  have hs := s_X11_strain (G := G) (w := w) (nI v)
  rw [zFi, show c_strain w (nI v) = (w.1 0 8, zsi w 0 8 (nI v)) from if_pos ⟨nI_pos' (by omega), nI_le hv (by decide)⟩] at hs
  exact zEi_c hs ⟨h.2.2.2.2.2.1.2, rfl⟩
/-- how many turns there are -/
abbrev nT (D : zD) : Nat := zpr (zsp D) (dJ D)
theorem o_many (h : Ob w D M Y T) : zCi G mX11_many [.ref 0] w (fun r w' => r = nI (zcnt (mQ D (-1) T) (nT D)) ∧ w' = zsi w 1 0 (nI (zcnt (mSt D T) (nT D)))) := by
  obtain ⟨h9, h8⟩ := Ob_tab h
  exact zEi_c (s_X11_many h.1 h.2.1.1 h8 h9 h.2.2.2.2.2.1.1 h.2.2.2.2.2.1.2) ⟨rfl, rfl⟩
theorem o_asked (hw : zWf w) : zCi G mX11_asked [.ref 0] w (fun r w' => r = w.1 1 0 ∧ w' = w) := zEi_c (s_X11_asked hw) ⟨rfl, rfl⟩
theorem S5_lit {A B : List Nat} {w' : zW} (h : zFr A B [] w w') (hs : (A.all (SI5.contains ·) && B.all (SL.contains ·)) = true) : S5 w w' := zFr_s h (by rw [Bool.and_eq_true]; exact ⟨hs, by decide⟩)
theorem cRow_S5 {r n : Nat} {f : Nat → Int32} {w1 w' : zW} {A B : List Nat} (h : zFr A B [] w w1) (h2 : cRowW w1 r n f w') (hs : (A.all (SI5.contains ·) && B.all (SL.contains ·)) = true) (hr : SI5.contains (4 + 2 * r) = true ∧ SI5.contains (5 + 2 * r) = true) : S5 w w' := by
  refine S5_t (S5_lit h hs) (S5_lit h2.1 ?_)
  simp only [List.all_cons, List.all_nil, hr.1, hr.2]
  rfl
theorem o_near {k r : Nat} {M1 Y1 : zS} (h : Ob w D M Y T) (hk : k < 6) (ht : ¬ w.1 (96 + 3 * k) 3 = 0) (hB : cBe w k M1 Y1) (hr : r = 2 ∨ r = 3) : zCi G mX11_nearest [.ref 0, .int (nI k), .int (nI r)] w (fun a w' => a = zoe (zmn (mQ D (-1) T) (mF D (-1) 1 3 3 M1 Y1) (nT D)) ∧ S5 w w') := by
  refine zCi_m (s_X11_nearest h.1 h.2.1.1 h.2.2.1 h.2.2.2.1 h.2.1.2 h.2.2.2.2.2.1.1 h.2.2.2.2.2.1.2 h.2.2.2.2.1 ⟨by decide, by decide⟩ hk (by omega) ht hB) (fun a w' q => ⟨q.1, ?_⟩)
  rcases q.2 with ⟨-, q⟩ | ⟨b, -, -, w1, q1, q2⟩
  · exact S5_lit q (by decide)
  · exact cRow_S5 q1 q2 (by decide) (by rcases hr with rfl | rfl <;> decide)
theorem o_never (h : Ob w D M Y T) : zCi G mX11_never [.ref 0, .int (nI 0), .int (nI 3)] w (fun a w' => a = nI (zcard (zdiff M (zev D 1 3 3 T))) ∧ S5 w w') := by
  refine zCi_m (s_X11_never h.1 h.2.1.1 h.2.2.2.1 h.2.1.2 h.2.2.2.2.2.1.1 h.2.2.2.2.2.1.2 h.2.2.2.2.1 ⟨by decide, by decide⟩ (by decide) (by decide) h.2.2.2.2.2.2.1 h.2.2.2.2.2.2.2) (fun a w' q => ⟨q.1, ?_⟩)
  obtain ⟨-, w1, q1, q2⟩ := q
  exact cRow_S5 q1 q2 (by decide) (by decide)
theorem o_stiff {j : Nat} (h : Ob w D M Y T) (hj : j < dJ D) : zCi G mX11_stiff [.ref 0, .int (nI j), .int (nI 0)] w (fun a w' => a = zsr1 (zoe (zmn (rHs D T j) (mF D (-1) 1 3 3 M Y) (nT D))) (zoe (zmn (mQ D (-1) T) (mF D (-1) 1 3 3 M Y) (nT D))) ∧ S5 w w' ∧ w'.1 1 0 = zsr2 (zoe (zmn (rHs D T j) (mF D (-1) 1 3 3 M Y) (nT D))) (w.1 1 0)) := by
  have hD := h.2.1.1
  have e1 : (zbst (rHs D T j) (rO D (-1) 1 3 3 M Y) (zN_ D (-1) (dF D))).map (rO D (-1) 1 3 3 M Y) = zmn (rHs D T j) (mF D (-1) 1 3 3 M Y) (nT D) := by
    have e : rO D (-1) 1 3 3 M Y = mF D (-1) 1 3 3 M Y := funext fun i => rO_code hD
    rw [e, zN_code hD]
    rfl
  have e2 : (zbst (rH D (-1) T) (rO D (-1) 1 3 3 M Y) (zN_ D (-1) (dF D))).map (rO D (-1) 1 3 3 M Y) = zmn (mQ D (-1) T) (mF D (-1) 1 3 3 M Y) (nT D) := by
    have e : rO D (-1) 1 3 3 M Y = mF D (-1) 1 3 3 M Y := funext fun i => rO_code hD
    rw [e, zN_code hD]
    show _ = (zbst (mQ D (-1) T) (mF D (-1) 1 3 3 M Y) (nT D)).map _
    rw [zbst_c (fun i hi => rH_code hD hi) (fun _ _ => rfl)]
  refine zCi_m (s_X11_stiff h.1 hD h.2.2.1 h.2.2.2.1 h.2.1.2 h.2.2.2.2.2.1.1 h.2.2.2.2.2.1.2 h.2.2.2.2.1 ⟨by decide, by decide⟩ hj (by decide) h.2.2.2.2.2.2.1 h.2.2.2.2.2.2.2 (congrArg zoe e1) (congrArg zoe e2)) (fun a w' q => ⟨q.1, S5_lit q.2.1 (by decide), q.2.2.2⟩)
/-! poses -/
def Po (w : zW) (D : zD) (T p c : Nat) : Prop := w.1 (47 + 4 * p) 3 = zkd D (zcode_t D c) (-1) T ∧ w.1 (47 + 4 * p) 5 = nI (zldo D (zcode_t D c) (-1) (dJ D)) ∧ (zHas w (49 + 4 * p) (mS D (-1) 1 3 3 c) ∧ zHas w (50 + 4 * p) zno) ∧ ∀ j, j < dJ D → w.1 (48 + 4 * p) j = zcode_t D c j
def Ps (w : zW) (D : zD) (T n : Nat) (cs : Nat → Nat) : Prop := n ≤ 5 ∧ w.1 0 10 = nI n ∧ ∀ p, p < n → Po w D T p (cs p) ∧ cs p < nT D
theorem Po_f {w w' : zW} {p c : Nat} {A B : List Nat} (h : Po w D T p c) (hp : p < 12) (hF : zFr A B [] w w') (k : (okc kPo A && okc kPo B) = true) : Po w' D T p c := by
  rw [Bool.and_eq_true] at k
  obtain ⟨h1, h2, ⟨h3, h4⟩, h5⟩ := h
  have e : ∀ a, 47 ≤ a → a ≤ 94 → w'.1 a = w.1 a := fun a q1 q2 => hF.2.1 a (okc_m k.1 (kPo_m q1 q2)) (by omega)
  have e2 : ∀ a, 47 ≤ a → a ≤ 94 → w'.2.1 a = w.2.1 a := fun a q1 q2 => hF.2.2.1 a (okc_m k.2 (kPo_m q1 q2))
  refine ⟨by rw [e _ (by omega) (by omega)]; exact h1, by rw [e _ (by omega) (by omega)]; exact h2, ⟨zHas_o h3 (e2 _ (by omega) (by omega)), zHas_o h4 (e2 _ (by omega) (by omega))⟩, fun j hj => by rw [e _ (by omega) (by omega)]; exact h5 j hj⟩
theorem Ps_f {w w' : zW} {n : Nat} {cs : Nat → Nat} {A B : List Nat} (h : Ps w D T n cs) (hF : zFr A B [] w w') (k : (okc kPo A && okc kPo B) = true) (k0 : A.contains 0 = false) : Ps w' D T n cs := by
  have h5 := h.1
  refine ⟨h.1, ?_, fun p hp => ⟨Po_f (h.2.2 p hp).1 (by omega) hF k, (h.2.2 p hp).2⟩⟩
  rw [hF.2.1 0 (fun q => by rw [List.contains_iff_mem.mpr q] at k0; cases k0) (by decide)]
  exact h.2.1
theorem Ps_c {w w' : zW} {n : Nat} {cs : Nat → Nat} (h : Ps w D T n cs) (hF : Sc w w') : Ps w' D T n cs := Ps_f h hF (by decide +kernel) (by decide +kernel)
theorem zk_13 {t : Nat → Int32} : zkd D t (-1) T = 1 ∨ zkd D t (-1) T = 2 ∨ zkd D t (-1) T = 3 := by
  unfold zkd
  by_cases h : 0 < zwrL zno (zP D t (-1))
  · rw [if_pos h]
    exact Or.inr (Or.inr rfl)
  · rw [if_neg h]
    by_cases h2 : T < zldo D t (-1) (dJ D)
    · rw [if_pos h2]
      exact Or.inr (Or.inl rfl)
    · rw [if_neg h2]
      exact Or.inl rfl
theorem zk_n5 {t : Nat → Int32} : ¬ zkd D t (-1) T = 5 := by
  rcases zk_13 (D := D) (t := t) (T := T) with h | h | h <;> rw [h] <;> decide
theorem zk_hd {t : Nat → Int32} : zheldk (zkd D t (-1) T) ↔ zkd D t (-1) T = 1 := by
  unfold zheldk
  rcases zk_13 (D := D) (t := t) (T := T) with h | h | h <;> rw [h] <;> decide
theorem mS_lt {c a : Nat} (h : mS D (-1) 1 3 3 c a = true) : a < 120 := by
  rw [mS_1] at h
  exact zdkL_lt h
theorem mS_th {c : Nat} : zthr 1 3 3 (mS D (-1) 1 3 3 c) = mS D (-1) 1 3 3 c := zthr_id (fun _ h => mS_lt h)
theorem o_about {n p k : Nat} {cs : Nat → Nat} (hw : zWf w) (hP : Ps w D T n cs) (hp : p < n) (hk : k < 2) : zCi G mX11_about [.ref 0, .int (nI p), .int (nI k)] w (fun r w' => r = 1 ∧ w' = zsi w 1 0 (if k = 0 then zkd D (zcode_t D (cs p)) (-1) T else nI (zldo D (zcode_t D (cs p)) (-1) (dJ D)))) := by
  have h5 := hP.1
  refine zEi_c (s_X11_about hw (n := n) (by omega) hP.2.1 hp (by omega)) ⟨rfl, ?_⟩
  obtain ⟨⟨h1, h2, -⟩, -⟩ := hP.2.2 p hp
  congr 1
  by_cases e : k = 0
  · rw [if_pos e, if_pos e]
    exact h1
  · rw [if_neg e, if_neg e, if_pos (show k = 1 by omega)]
    exact h2
/-- row 5 shows these cells -/
def R5 (w : zW) (S : zS) : Prop := w.1 14 0 = nI 10 ∧ ∀ y, y < 10 → w.1 15 y = nI (zline S y)
theorem R5_f {w w' : zW} {S : zS} (h : R5 w S) (hF : S5 w w') : R5 w' S := by
  unfold R5
  rw [hF.2.1 14 (by decide) (by decide), hF.2.1 15 (by decide) (by decide)]
  exact h
theorem R5_1 {S : zS} {x : Int32} (h : R5 w S) : R5 (zsi w 1 0 x) S := R5_f h S5_1
theorem o_shape {n p : Nat} {cs : Nat → Nat} (hw : zWf w) (hP : Ps w D T n cs) (hp : p < n) : zCi G mX11_shape [.ref 0, .int (nI p), .int (nI 5)] w (fun r w' => r = nI (zcard (mS D (-1) 1 3 3 (cs p))) ∧ Sc w w' ∧ R5 w' (mS D (-1) 1 3 3 (cs p))) := by
  have h5 := hP.1
  refine zCi_m (s_X11_shape hw (n := n) (by omega) hP.2.1 hp (by decide) (hP.2.2 p hp).1.2.2.1.1) (fun r w' q => ⟨q.1, ?_, q.2.2⟩)
  exact zFr_s q.2.1 (by decide)
theorem o_thrown {n p : Nat} {cs : Nat → Nat} (h : Ob w D M Y T) (hP : Ps w D T n cs) (hp : p < n) : zCi G mX11_thrown [.ref 0, .int (nI p), .int (nI 5)] w (fun r w' => r = nI (zcard (mS D (-1) 1 3 3 (cs p))) ∧ Sc w w' ∧ R5 w' (mS D (-1) 1 3 3 (cs p))) := by
  have h5 := hP.1
  obtain ⟨⟨h1, h2, ⟨h3, h4⟩, -⟩, -⟩ := hP.2.2 p hp
  refine zCi_m (s_X11_thrown h.1 (n := n) (by omega) hP.2.1 hp (by decide) h3 h4 h.2.2.2.2.1 ⟨by decide, by decide⟩) (fun r w' q => ?_)
  rw [if_neg (by rw [h1]; exact zk_n5), mS_th] at q
  obtain ⟨q1, w1, q2, q3⟩ := q
  exact ⟨q1, Sc_t (zFr_s q2 (by decide)) (zFr_s q3.1 (by decide)), q3.2⟩
theorem o_off {n p k : Nat} {cs : Nat → Nat} {M1 Y1 : zS} (h : Ob w D M Y T) (hP : Ps w D T n cs) (hp : p < n) (hk : k < 6) (ht : ¬ w.1 (96 + 3 * k) 3 = 0) (hB : cBe w k M1 Y1) : zCi G mX11_off [.ref 0, .int (nI p), .int (nI k)] w (fun r w' => r = nI (zofB M1 Y1 (mS D (-1) 1 3 3 (cs p))) ∧ S5 w w') := by
  have h5 := hP.1
  obtain ⟨⟨h1, h2, ⟨h3, h4⟩, -⟩, -⟩ := hP.2.2 p hp
  refine zEi_c (s_X11_off h.1 (n := n) (by omega) hP.2.1 hp hk ht h3 h4 h.2.2.2.2.1 ⟨by decide, by decide⟩ hB (by rw [if_neg (by rw [h1]; exact zk_n5), mS_th])) ⟨rfl, ?_⟩
  exact zFr_t (zFr_t (zFr_l (by decide)) (zFr_l (by decide))) (zFr_i (by decide) (by decide))
theorem o_at {y : Nat} {S : zS} (hw : zWf w) (hR : R5 w S) (hy : y < 10) : zCi G mX11_at [.ref 0, .int (nI 5), .int (nI y)] w (fun r w' => r = 1 ∧ w' = zsi w 1 0 (nI (zline S y))) := by
  have hs := s_X11_at (G := G) hw (r := 5) (by decide) (Or.inr ⟨10, by decide, hR.1⟩) (nI y)
  have e : c_at w 5 (nI y) = (1, zsi w 1 0 (nI (zline S y))) := by
    unfold c_at
    rw [show w.1 (4 + 2 * 5) 0 = nI 10 from hR.1, if_neg (fun q => q (by decide)), if_neg (fun q => q ⟨nI_pos' (by omega), nI_lt hy (by decide)⟩), zRget_in (m := 10) hR.1 (by decide) hy]
    show (1, zsi w 1 0 (w.1 15 y)) = _
    rw [hR.2 y hy]
  rw [zFi, e] at hs
  exact zEi_c hs ⟨rfl, rfl⟩
end OB
