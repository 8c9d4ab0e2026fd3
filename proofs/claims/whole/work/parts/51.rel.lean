/-! the two sides agree -/
def qT (w : zW) : Prop := w.1 1 0 = w.1 166 2 ∧ w.2.1 1 1 = w.2.1 166 3 ∧ w.2.1 1 2 = w.2.1 166 4 ∧ w.1 1 3 = w.1 166 0 ∧ ∀ k, k < 6 → w.1 2 k = w.1 167 k
def qR (w : zW) : Prop := ∀ r, r < 6 → w.1 (4 + 2 * r) 0 = w.1 168 r ∧ zSz (w.1 168 r) 40 ∧ ∀ m, w.1 168 r = nI m → m ≤ 40 → ∀ i, i < m → w.1 (5 + 2 * r) i = w.1 169 (40 * r + i)
def qX (w : zW) : Prop := ∀ r, r < 4 → w.1 (17 + 2 * r) 0 = w.1 171 r ∧ zSz (w.1 171 r) 80 ∧ ∀ m, w.1 171 r = nI m → m ≤ 80 → ∀ i, i < m → w.1 (18 + 2 * r) i = w.1 172 (80 * r + i)
def qH (w : zW) (D : zD) : Prop := zDok D ∧ cHd w 26 D ∧ mHd w D ∧ cRe w D
def qL (w : zW) (z u v : Nat) : Prop := zlok z u v ∧ zLm w 44 z u v ∧ mLm w z u v
def qS (w : zW) (T : Nat) : Prop := T ≤ 99 ∧ w.1 0 8 = nI T ∧ w.1 166 24 = nI T
def qP1 (w : zW) (D : zD) (p : Nat) : Prop := zT6 D (w.1 (48 + 4 * p)) ∧ (∀ j, j < dJ D → ∃ d, d < zsp D j ∧ w.1 (48 + 4 * p) j = nI d - nI (dB D j)) ∧ (∀ j, j < dJ D → w.1 184 (6 * p + j) = w.1 (48 + 4 * p) j) ∧
  (w.1 (47 + 4 * p) 3 = w.1 183 (3 * p) ∧ w.1 (47 + 4 * p) 4 = w.1 183 (3 * p + 1) ∧ w.1 (47 + 4 * p) 5 = nI (zld (w.1 (48 + 4 * p)))) ∧
  zHas w (49 + 4 * p) (zdkL zno (zP D (w.1 (48 + 4 * p)) (-1))) ∧ (∃ C, zHas w (50 + 4 * p) C ∧ ∀ y, y < 10 → w.1 185 (10 * p + y) = nI (zline C y)) ∧
  ((w.1 183 (3 * p) = 3 ∧ w.1 (47 + 4 * p) 7 = w.1 183 (3 * p + 2)) ∨ (w.1 183 (3 * p) = 2 ∧ w.1 (47 + 4 * p) 6 = w.1 183 (3 * p + 2)) ∨ (zheldk (w.1 183 (3 * p)) ∧ zwrL zno (zP D (w.1 (48 + 4 * p)) (-1)) = 0))
def qP (w : zW) (D : zD) (n : Nat) : Prop := n ≤ 12 ∧ w.1 0 10 = nI n ∧ w.1 166 33 = nI n ∧ ∀ p, p < n → qP1 w D p
def qB (w : zW) : Prop := ∀ k, k < 6 → w.1 (96 + 3 * k) 3 = w.1 186 k ∧ (w.1 186 k = 0 ∨ w.1 186 k = 1) ∧ w.1 (96 + 3 * k) 2 = w.1 189 k ∧ ∃ M Y, cBe w k M Y ∧ mBe w k M Y
def qK (w : zW) (n l c : Nat) : Prop := (l ≤ 8 ∧ w.1 114 0 = nI l ∧ w.1 166 53 = nI l ∧ ∀ q t, q < l → t < 3 → w.1 (116 + q) t = w.1 200 (3 * q + t) ∧ 0 ≤ w.1 200 (3 * q + t) ∧ w.1 200 (3 * q + t) ≤ 9) ∧
  c ≤ 24 ∧ w.1 114 2 = nI c ∧ w.1 166 55 = nI c ∧ ∀ q, q < c → (w.1 124 q = w.1 201 (3 * q) ∧ w.1 125 q = w.1 201 (3 * q + 1) ∧ w.1 126 q = w.1 201 (3 * q + 2)) ∧ (0 ≤ w.1 201 (3 * q) ∧ w.1 201 (3 * q) < nI l) ∧ (0 ≤ w.1 201 (3 * q + 1) ∧ w.1 201 (3 * q + 1) < nI n) ∧ (0 ≤ w.1 201 (3 * q + 2) ∧ w.1 201 (3 * q + 2) < 6)
def zQ (w : zW) : Prop := zWf w ∧ qT w ∧ qR w ∧ qX w ∧ qB w ∧ ∃ D z u v T n l c, qH w D ∧ qL w z u v ∧ qS w T ∧ qP w D n ∧ qK w n l c
def zFx (A B F : List Nat) (w w' : zW) : Prop := (∀ a, a ∉ A → a ≠ 166 → w'.1 a = w.1 a) ∧ (∀ a, a ∉ B → w'.2.1 a = w.2.1 a) ∧ ∀ i, i ∉ F → w'.1 166 i = w.1 166 i
def okc (K A : List Nat) : Bool := K.all (fun k => !A.contains k)
theorem okc_m {K A : List Nat} (h : okc K A = true) {k : Nat} (hk : k ∈ K) : k ∉ A := by
  unfold okc at h
  simp only [List.all_eq_true, Bool.not_eq_true', ← Bool.not_eq_true, List.contains_iff_mem] at h
  exact h k hk
theorem zFx_t {A B F : List Nat} {w w1 w2 : zW} (h : zFx A B F w w1) (h' : zFx A B F w1 w2) : zFx A B F w w2 :=
  ⟨fun a h1 h2 => (h'.1 a h1 h2).trans (h.1 a h1 h2), fun a h1 => (h'.2.1 a h1).trans (h.2.1 a h1), fun i h1 => (h'.2.2 i h1).trans (h.2.2 i h1)⟩
theorem qT_f {A B F : List Nat} {w w' : zW} (h : qT w) (hF : zFx A B F w w') (k : (okc [1, 2, 167] A && okc [1, 166] B && okc [0, 2] F) = true) : qT w' := by
  simp only [Bool.and_eq_true] at k
  obtain ⟨h1, h2, h3⟩ := hF
  unfold qT
  rw [h1 1 (okc_m k.1.1 (by simp)) (by decide), h1 2 (okc_m k.1.1 (by simp)) (by decide), h1 167 (okc_m k.1.1 (by simp)) (by decide), h2 1 (okc_m k.1.2 (by simp)), h2 166 (okc_m k.1.2 (by simp)), h3 0 (okc_m k.2 (by simp)), h3 2 (okc_m k.2 (by simp))]
  exact h
theorem qR_f {A B F : List Nat} {w w' : zW} (h : qR w) (hF : zFx A B F w w') (k : okc [4, 5, 6, 7, 8, 9, 10, 11, 12, 13, 14, 15, 168, 169] A = true) : qR w' := by
  intro r hr
  rw [hF.1 (4 + 2 * r) (okc_m k (by simp; omega)) (by omega), hF.1 (5 + 2 * r) (okc_m k (by simp; omega)) (by omega), hF.1 168 (okc_m k (by simp)) (by decide), hF.1 169 (okc_m k (by simp)) (by decide)]
  exact h r hr
theorem qX_f {A B F : List Nat} {w w' : zW} (h : qX w) (hF : zFx A B F w w') (k : okc [17, 18, 19, 20, 21, 22, 23, 24, 171, 172] A = true) : qX w' := by
  intro r hr
  rw [hF.1 (17 + 2 * r) (okc_m k (by simp; omega)) (by omega), hF.1 (18 + 2 * r) (okc_m k (by simp; omega)) (by omega), hF.1 171 (okc_m k (by simp)) (by decide), hF.1 172 (okc_m k (by simp)) (by decide)]
  exact h r hr
theorem cRe_f {A B F : List Nat} {w w' : zW} {D : zD} (h : cRe w D) (hF : zFx A B F w w') (k : (okc [131, 132, 133, 134, 139, 140] A && okc [135, 136, 141, 142] B) = true) : cRe w' D := by
  simp only [Bool.and_eq_true] at k
  obtain ⟨h1, h2, h3⟩ := hF
  unfold cRe cStep cOwn cOwn1 cRow
  rw [h1 131 (okc_m k.1 (by simp)) (by decide), h1 132 (okc_m k.1 (by simp)) (by decide), h1 133 (okc_m k.1 (by simp)) (by decide), h1 134 (okc_m k.1 (by simp)) (by decide), h1 139 (okc_m k.1 (by simp)) (by decide), h1 140 (okc_m k.1 (by simp)) (by decide), h2 135 (okc_m k.2 (by simp)), h2 136 (okc_m k.2 (by simp)), h2 141 (okc_m k.2 (by simp)), h2 142 (okc_m k.2 (by simp))]
  exact h
theorem qH_f {A B F : List Nat} {w w' : zW} {D : zD} (h : qH w D) (hF : zFx A B F w w') (k : (okc [26, 27, 28, 29, 30, 31, 32, 33, 34, 173, 174, 175] A && okc [131, 132, 133, 134, 139, 140] A && okc [135, 136, 141, 142] B && okc [10, 11, 12] F) = true) : qH w' D := by
  simp only [Bool.and_eq_true] at k
  refine ⟨h.1, cHd_o h.2.1 (fun a h1 h2 => hF.1 a (okc_m k.1.1.1 (by simp; omega)) (by omega)), mHd_o h.2.2.1 ⟨hF.1 173 (okc_m k.1.1.1 (by simp)) (by decide), hF.1 174 (okc_m k.1.1.1 (by simp)) (by decide), hF.1 175 (okc_m k.1.1.1 (by simp)) (by decide)⟩ ⟨hF.2.2 10 (okc_m k.2 (by simp)), hF.2.2 11 (okc_m k.2 (by simp)), hF.2.2 12 (okc_m k.2 (by simp))⟩, cRe_f h.2.2.2 hF (by simp only [Bool.and_eq_true]; exact ⟨k.1.1.2, k.1.2⟩)⟩
theorem qL_f {A B F : List Nat} {w w' : zW} {z u v : Nat} (h : qL w z u v) (hF : zFx A B F w w') (k : (okc [44] A && okc [25, 26, 27] F) = true) : qL w' z u v := by
  simp only [Bool.and_eq_true] at k
  refine ⟨h.1, ?_, mLm_o h.2.2 ⟨hF.2.2 25 (okc_m k.2 (by simp)), hF.2.2 26 (okc_m k.2 (by simp)), hF.2.2 27 (okc_m k.2 (by simp))⟩⟩
  unfold zLm
  rw [hF.1 44 (okc_m k.1 (by simp)) (by decide)]
  exact h.2.1
theorem qS_f {A B F : List Nat} {w w' : zW} {T : Nat} (h : qS w T) (hF : zFx A B F w w') (k : (okc [0] A && okc [24] F) = true) : qS w' T := by
  simp only [Bool.and_eq_true] at k
  unfold qS
  rw [hF.1 0 (okc_m k.1 (by simp)) (by decide), hF.2.2 24 (okc_m k.2 (by simp))]
  exact h
/-- the cells of poses -/
def kPo : List Nat := [47, 48, 49, 50, 51, 52, 53, 54, 55, 56, 57, 58, 59, 60, 61, 62, 63, 64, 65, 66, 67, 68, 69, 70, 71, 72, 73, 74, 75, 76, 77, 78, 79, 80, 81, 82, 83, 84, 85, 86, 87, 88, 89, 90, 91, 92, 93, 94]
theorem kPo_m {a : Nat} (h1 : 47 ≤ a) (h2 : a ≤ 94) : a ∈ kPo := by
  simp [kPo]
  omega
theorem qP1_o {w w' : zW} {D : zD} {p : Nat} (h : qP1 w D p) (e1 : w'.1 (47 + 4 * p) = w.1 (47 + 4 * p)) (e2 : w'.1 (48 + 4 * p) = w.1 (48 + 4 * p)) (e3 : w'.2.1 (49 + 4 * p) = w.2.1 (49 + 4 * p)) (e4 : w'.2.1 (50 + 4 * p) = w.2.1 (50 + 4 * p)) (e5 : w'.1 183 = w.1 183) (e6 : w'.1 184 = w.1 184) (e7 : w'.1 185 = w.1 185) : qP1 w' D p := by
  unfold qP1 zHas
  rw [e1, e2, e3, e4, e5, e6, e7]
  exact h
theorem qP_f {A B F : List Nat} {w w' : zW} {D : zD} {n : Nat} (h : qP w D n) (hF : zFx A B F w w') (k : (okc [0, 183, 184, 185] A && okc kPo A && okc kPo B && okc [33] F) = true) : qP w' D n := by
  simp only [Bool.and_eq_true] at k
  have h12 := h.1
  unfold qP
  rw [hF.1 0 (okc_m k.1.1.1 (by simp)) (by decide), hF.2.2 33 (okc_m k.2 (by simp))]
  refine ⟨h.1, h.2.1, h.2.2.1, fun p hp => qP1_o (h.2.2.2 p hp) (hF.1 _ (okc_m k.1.1.2 (kPo_m (by omega) (by omega))) (by omega)) (hF.1 _ (okc_m k.1.1.2 (kPo_m (by omega) (by omega))) (by omega)) (hF.2.1 _ (okc_m k.1.2 (kPo_m (by omega) (by omega)))) (hF.2.1 _ (okc_m k.1.2 (kPo_m (by omega) (by omega)))) (hF.1 183 (okc_m k.1.1.1 (by simp)) (by decide)) (hF.1 184 (okc_m k.1.1.1 (by simp)) (by decide)) (hF.1 185 (okc_m k.1.1.1 (by simp)) (by decide))⟩
def kBe : List Nat := [96, 97, 98, 99, 100, 101, 102, 103, 104, 105, 106, 107, 108, 109, 110, 111, 112, 113]
theorem kBe_m {a : Nat} (h1 : 96 ≤ a) (h2 : a ≤ 113) : a ∈ kBe := by
  simp [kBe]
  omega
theorem qB_f {A B F : List Nat} {w w' : zW} (h : qB w) (hF : zFx A B F w w') (k : (okc kBe A && okc [186, 187, 188, 189] A && okc kBe B) = true) : qB w' := by
  simp only [Bool.and_eq_true] at k
  intro q hq
  unfold cBe mBe zHas
  rw [hF.1 (96 + 3 * q) (okc_m k.1.1 (kBe_m (by omega) (by omega))) (by omega), hF.1 186 (okc_m k.1.2 (by simp)) (by decide), hF.1 187 (okc_m k.1.2 (by simp)) (by decide), hF.1 188 (okc_m k.1.2 (by simp)) (by decide), hF.1 189 (okc_m k.1.2 (by simp)) (by decide), hF.2.1 (97 + 3 * q) (okc_m k.2 (kBe_m (by omega) (by omega))), hF.2.1 (98 + 3 * q) (okc_m k.2 (kBe_m (by omega) (by omega)))]
  exact h q hq
theorem qK_o {w w' : zW} {n l c : Nat} (h : qK w n l c) (e0 : w'.1 114 0 = w.1 114 0 ∧ w'.1 114 2 = w.1 114 2) (e1 : ∀ q, q < 8 → w'.1 (116 + q) = w.1 (116 + q)) (e2 : w'.1 124 = w.1 124 ∧ w'.1 125 = w.1 125 ∧ w'.1 126 = w.1 126) (e3 : w'.1 200 = w.1 200 ∧ w'.1 201 = w.1 201) (e4 : w'.1 166 53 = w.1 166 53 ∧ w'.1 166 55 = w.1 166 55) : qK w' n l c := by
  have h8 := h.1.1
  unfold qK
  rw [e0.1, e0.2, e2.1, e2.2.1, e2.2.2, e3.1, e3.2, e4.1, e4.2]
  refine ⟨⟨h.1.1, h.1.2.1, h.1.2.2.1, fun q t hq ht => ?_⟩, h.2⟩
  rw [e1 q (by omega)]
  exact h.1.2.2.2 q t hq ht
theorem qK_f {A B F : List Nat} {w w' : zW} {n l c : Nat} (h : qK w n l c) (hF : zFx A B F w w') (k : (okc [114, 116, 117, 118, 119, 120, 121, 122, 123, 124, 125, 126, 200, 201] A && okc [53, 55] F) = true) : qK w' n l c := by
  simp only [Bool.and_eq_true] at k
  have e := hF.1 114 (okc_m k.1 (by simp)) (by decide)
  exact qK_o h ⟨by rw [e], by rw [e]⟩ (fun q hq => hF.1 _ (okc_m k.1 (by simp; omega)) (by omega)) ⟨hF.1 124 (okc_m k.1 (by simp)) (by decide), hF.1 125 (okc_m k.1 (by simp)) (by decide), hF.1 126 (okc_m k.1 (by simp)) (by decide)⟩ ⟨hF.1 200 (okc_m k.1 (by simp)) (by decide), hF.1 201 (okc_m k.1 (by simp)) (by decide)⟩ ⟨hF.2.2 53 (okc_m k.2 (by simp)), hF.2.2 55 (okc_m k.2 (by simp))⟩
/-- all but what is told -/
def zQt (w : zW) : Prop := zWf w ∧ qR w ∧ qX w ∧ qB w ∧ ∃ D z u v T n l c, qH w D ∧ qL w z u v ∧ qS w T ∧ qP w D n ∧ qK w n l c
theorem zQ_t {w : zW} (h : zQ w) : zQt w := ⟨h.1, h.2.2.1, h.2.2.2.1, h.2.2.2.2.1, h.2.2.2.2.2⟩
theorem zQ_i {w : zW} (h : zQt w) (h2 : qT w) : zQ w := ⟨h.1, h2, h.2.1, h.2.2.1, h.2.2.2.1, h.2.2.2.2⟩
def okQ (A B F : List Nat) : Bool := okc [4, 5, 6, 7, 8, 9, 10, 11, 12, 13, 14, 15, 168, 169] A && okc [17, 18, 19, 20, 21, 22, 23, 24, 171, 172] A && (okc kBe A && okc [186, 187, 188, 189] A && okc kBe B) && (okc [26, 27, 28, 29, 30, 31, 32, 33, 34, 173, 174, 175] A && okc [131, 132, 133, 134, 139, 140] A && okc [135, 136, 141, 142] B && okc [10, 11, 12] F) && (okc [44] A && okc [25, 26, 27] F) && (okc [0] A && okc [24] F) && (okc [0, 183, 184, 185] A && okc kPo A && okc kPo B && okc [33] F) && (okc [114, 116, 117, 118, 119, 120, 121, 122, 123, 124, 125, 126, 200, 201] A && okc [53, 55] F)
theorem zQt_f {A B F : List Nat} {w w' : zW} (h : zQt w) (hw : zWf w') (hF : zFx A B F w w') (k : okQ A B F = true) : zQt w' := by
  unfold okQ at k
  rw [Bool.and_eq_true, Bool.and_eq_true, Bool.and_eq_true, Bool.and_eq_true, Bool.and_eq_true, Bool.and_eq_true, Bool.and_eq_true] at k
  obtain ⟨⟨⟨⟨⟨⟨⟨k1, k2⟩, k3⟩, k4⟩, k5⟩, k6⟩, k7⟩, k8⟩ := k
  obtain ⟨_, hR, hX, hB, D, z, u, v, T, n, l, c, hH, hL, hS, hP, hK⟩ := h
  exact ⟨hw, qR_f hR hF k1, qX_f hX hF k2, qB_f hB hF k3, D, z, u, v, T, n, l, c, qH_f hH hF k4, qL_f hL hF k5, qS_f hS hF k6, qP_f hP hF k7, qK_f hK hF k8⟩
