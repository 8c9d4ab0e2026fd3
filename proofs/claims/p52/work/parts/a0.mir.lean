/-! a hand seen in a glass -/
def mP (p : zPt) : zPt := (11 - p.1, p.2)
def mC (c : Nat) : Nat := 12 * (c / 12) + (11 - c % 12)
def gS (S : zS) : zS := fun c => S (mC c)
theorem mC_2 (c : Nat) : mC (mC c) = c := by
  unfold mC
  omega
theorem mC_lt {c : Nat} (h : c < 120) : mC c < 120 := by
  unfold mC
  omega
theorem gS_no : gS zno = zno := rfl
theorem nI_11 {a : Nat} (h : a ≤ 11) : nI (11 - a) = 11 - nI a := (nI_subE h rfl rfl).symm
theorem zI_11 {x : Int32} (h : 0 ≤ 11 - x ∧ 11 - x < 12) : 0 ≤ x ∧ x < 12 := by
  obtain ⟨j, hj, e⟩ := znat (n := 12) (by decide) h.1 h.2
  have e2 : x = 11 - nI j := by grind
  rw [e2, ← nI_11 (by omega)]
  exact ⟨nI_pos' (by omega), nI_lt (b := 12) (by omega) (by decide)⟩
theorem zI_11' {x : Int32} (h : 0 ≤ x ∧ x < 12) : 0 ≤ 11 - x ∧ 11 - x < 12 := by
  obtain ⟨j, hj, rfl⟩ := znat (n := 12) (by decide) h.1 h.2
  rw [← nI_11 (by omega)]
  exact ⟨nI_pos' (by omega), nI_lt (b := 12) (by omega) (by decide)⟩
theorem zon_m {p : zPt} : zon (mP p) ↔ zon p := ⟨fun h => ⟨zI_11 h.1, h.2⟩, fun h => ⟨zI_11' h.1, h.2⟩⟩
theorem zcel_m {p : zPt} (h : zon p) : zcel (mP p) = mC (zcel p) := by
  obtain ⟨x, y, hx, hy, rfl⟩ := zon_nat h
  show zcel (11 - nI x, nI y) = _
  rw [← nI_11 (by omega), zcel_nI (by omega) hy, zcel_nI hx hy]
  unfold mC
  omega
theorem zdk1_g (S : zS) (p : zPt) : zdk1 (gS S) (mP p) = gS (zdk1 S p) := by
  unfold zdk1
  by_cases h : zon p
  · rw [if_pos (zon_m.mpr h), if_pos h, zcel_m h]
    funext c
    show (S (mC c) || decide (c = mC (zcel p))) = (S (mC c) || decide (mC c = zcel p))
    congr 1
    refine decide_eq_decide.mpr ⟨fun q => by rw [q, mC_2], fun q => by rw [← q, mC_2]⟩
  · rw [if_neg (fun q => h (zon_m.mp q)), if_neg h]
theorem zdkL_g : ∀ (L : List zPt) (S : zS), zdkL (gS S) (L.map mP) = gS (zdkL S L)
  | [], S => rfl
  | p :: L, S => by
    show zdkL (zdk1 (gS S) (mP p)) (L.map mP) = gS (zdkL (zdk1 S p) L)
    rw [zdk1_g, zdkL_g L]
theorem zwr1_g (S : zS) (p : zPt) : zwr1 (gS S) (mP p) = zwr1 S p := by
  unfold zwr1
  by_cases h : zon p
  · have e : gS S (zcel (mP p)) = S (zcel p) := by rw [zcel_m h]; show S (mC (mC _)) = _; rw [mC_2]
    rw [e]
    by_cases h2 : S (zcel p) = false
    · rw [if_pos ⟨zon_m.mpr h, h2⟩, if_pos ⟨h, h2⟩]
    · rw [if_neg (fun q => h2 q.2), if_neg (fun q => h2 q.2)]
  · rw [if_neg (fun q => h (zon_m.mp q.1)), if_neg (fun q => h q.1)]
theorem zwrL_g : ∀ (L : List zPt) (S : zS), zwrL (gS S) (L.map mP) = zwrL S L
  | [], S => rfl
  | p :: L, S => by
    show zwr1 (gS S) (mP p) + zwrL (zdk1 (gS S) (mP p)) (L.map mP) = zwr1 S p + zwrL (zdk1 S p) L
    rw [zwr1_g, zdk1_g, zwrL_g L]
def zMir (D D' : zD) : Prop := (dW D' = dW D ∧ dF D' = dF D ∧ dJ D' = dJ D) ∧ (∀ h, h < dW D → dw D' h % 12 = 11 - dw D h % 12 ∧ dw D' h / 12 = dw D h / 12) ∧
  (∀ f, f < dF D → dO D' f = dO D f ∧ dS D' f = (8 - dS D f) % 8 ∧ dI D' f = dI D f ∧ dL D' f = dL D f) ∧ ∀ j, j < dJ D → dH D' j = dH D j ∧ dB D' j = dA D j ∧ dA D' j = dB D j
theorem zt5 {t : Int32} (h : -2 ≤ t ∧ t ≤ 2) : t = -2 ∨ t = -1 ∨ t = 0 ∨ t = 1 ∨ t = 2 := by
  have h1 := zint_le.mp h.1
  have h2 := zint_le.mp h.2
  rw [show (-2 : Int32).toInt = -2 from rfl] at h1
  rw [show (2 : Int32).toInt = 2 from rfl] at h2
  have h3 : t.toInt = -2 ∨ t.toInt = -1 ∨ t.toInt = 0 ∨ t.toInt = 1 ∨ t.toInt = 2 := by omega
  rcases h3 with h | h | h | h | h
  · exact Or.inl (Int32.toInt_inj.mp h)
  · exact Or.inr (Or.inl (Int32.toInt_inj.mp h))
  · exact Or.inr (Or.inr (Or.inl (Int32.toInt_inj.mp h)))
  · exact Or.inr (Or.inr (Or.inr (Or.inl (Int32.toInt_inj.mp h))))
  · exact Or.inr (Or.inr (Or.inr (Or.inr (Int32.toInt_inj.mp h))))
theorem zside_g {s : Nat} {t : Int32} (hs : s < 8) (h : -2 ≤ t ∧ t ≤ 2) : zside ((8 - s) % 8) (-t) = (8 - zside s t) % 8 := by
  have key : ∀ s, s < 8 → zside ((8 - s) % 8) (-(-2)) = (8 - zside s (-2)) % 8 ∧ zside ((8 - s) % 8) (-(-1)) = (8 - zside s (-1)) % 8 ∧ zside ((8 - s) % 8) (-0) = (8 - zside s 0) % 8 ∧ zside ((8 - s) % 8) (-1) = (8 - zside s 1) % 8 ∧ zside ((8 - s) % 8) (-2) = (8 - zside s 2) % 8 := by decide +kernel
  obtain ⟨k1, k2, k3, k4, k5⟩ := key s hs
  rcases zt5 h with rfl | rfl | rfl | rfl | rfl
  · exact k1
  · exact k2
  · exact k3
  · exact k4
  · exact k5
theorem zsXY_g : ∀ s, s < 8 → zsX ((8 - s) % 8) = -zsX s ∧ zsY ((8 - s) % 8) = zsY s := by decide +kernel
theorem zab_g {t : Int32} (h : -2 ≤ t ∧ t ≤ 2) : zab (-t) = zab t := by
  rcases zt5 h with rfl | rfl | rfl | rfl | rfl <;> decide +kernel
section MIR
variable {D D' : zD} {t t' : Nat → Int32}
theorem zpos_g (hD : zDok D) (hM : zMir D D') (ht : ∀ j, j < dJ D → (-2 ≤ t j ∧ t j ≤ 2) ∧ t' j = -t j) {f : Nat} (hf : f < dF D) : ∀ i, i ≤ dL D f → ((zpos D' t' f i).1 = 11 - (zpos D t f i).1 ∧ (zpos D' t' f i).2.1 = (zpos D t f i).2.1) ∧ (zpos D' t' f i).2.2 = (8 - (zpos D t f i).2.2) % 8 ∧ (zpos D t f i).2.2 < 8
  | 0, _ => by
    obtain ⟨-, m2, m3, -⟩ := hM
    obtain ⟨a1, a2, a3, a4⟩ := m3 f hf
    obtain ⟨b1, b2, b3, b4⟩ := hD.2.2.1 f hf
    obtain ⟨c1, c2⟩ := m2 _ b1
    obtain ⟨e1, e2⟩ := zsXY_g _ b2
    refine ⟨⟨?_, ?_⟩, a2, b2⟩
    · show nI (dw D' (dO D' f) % 12) + zsX (dS D' f) = 11 - (nI (dw D (dO D f) % 12) + zsX (dS D f))
      rw [a1, a2, c1, e1, nI_11 (by omega)]
      grind
    · show nI (dw D' (dO D' f) / 12) + zsY (dS D' f) = nI (dw D (dO D f) / 12) + zsY (dS D f)
      rw [a1, a2, c2, e2]
  | i + 1, hi => by
    obtain ⟨⟨h1, h2⟩, h3, h4⟩ := zpos_g hD hM ht hf i (by omega)
    obtain ⟨a1, a2, a3, a4⟩ := hM.2.2.1 f hf
    obtain ⟨b1, b2, b3, b4⟩ := hD.2.2.1 f hf
    have hj : dI D f + i < dJ D := by
      rw [b4, ← hD.2.2.2.1]
      have := zoff_mono (D := D) (show f + 1 ≤ dF D from hf)
      have e : zoff D (f + 1) = zoff D f + dL D f := rfl
      omega
    obtain ⟨g1, g2⟩ := ht _ hj
    have e9 : zside (zpos D' t' f i).2.2 (t' (dI D' f + i)) = (8 - zside (zpos D t f i).2.2 (t (dI D f + i))) % 8 := by
      rw [h3, a3, g2, zside_g h4 g1]
    have e8 := zside_lt (zpos D t f i).2.2 (t (dI D f + i))
    obtain ⟨e1, e2⟩ := zsXY_g _ e8
    refine ⟨⟨?_, ?_⟩, e9, e8⟩
    · show (zpos D' t' f i).1 + zsX (zside (zpos D' t' f i).2.2 (t' (dI D' f + i))) = 11 - ((zpos D t f i).1 + zsX (zside (zpos D t f i).2.2 (t (dI D f + i))))
      rw [e9, e1, h1]
      grind
    · show (zpos D' t' f i).2.1 + zsY (zside (zpos D' t' f i).2.2 (t' (dI D' f + i))) = (zpos D t f i).2.1 + zsY (zside (zpos D t f i).2.2 (t (dI D f + i)))
      rw [e9, e2, h2]
theorem zLq_g (hD : zDok D) (hM : zMir D D') (ht : ∀ j, j < dJ D → (-2 ≤ t j ∧ t j ≤ 2) ∧ t' j = -t j) {f : Nat} (hf : f < dF D) : ∀ n, n ≤ dL D f + 1 → zLq D' t' f n = (zLq D t f n).map mP
  | 0, _ => rfl
  | n + 1, hn => by
    obtain ⟨⟨h1, h2⟩, -⟩ := zpos_g hD hM ht hf n (by omega)
    show zLq D' t' f n ++ [zpt D' t' f n] = (zLq D t f n ++ [zpt D t f n]).map mP
    rw [zLq_g hD hM ht hf n (by omega), List.map_append]
    congr 1
    show [((zpos D' t' f n).1, (zpos D' t' f n).2.1)] = [(11 - (zpos D t f n).1, (zpos D t f n).2.1)]
    rw [h1, h2]
theorem zLw_g (hM : zMir D D') : ∀ n, n ≤ dW D → zLw D' (-1) n = (zLw D (-1) n).map mP
  | 0, _ => rfl
  | n + 1, hn => by
    show zLw D' (-1) n ++ (if (-1 : Int32) = -1 ∨ (-1 : Int32) = nI n then [zwt D' n] else []) = (zLw D (-1) n ++ (if (-1 : Int32) = -1 ∨ (-1 : Int32) = nI n then [zwt D n] else [])).map mP
    rw [if_pos (Or.inl rfl), if_pos (Or.inl rfl), zLw_g hM n (by omega), List.map_append]
    congr 1
    obtain ⟨c1, c2⟩ := hM.2.1 n (by omega)
    show [(nI (dw D' n % 12), nI (dw D' n / 12))] = [(11 - nI (dw D n % 12), nI (dw D n / 12))]
    rw [c1, c2, nI_11 (by omega)]
theorem zac_1 (D : zD) (f : Nat) : zac D (-1) f = true := decide_eq_true (Or.inl rfl)
theorem zP_g (hD : zDok D) (hM : zMir D D') (ht : ∀ j, j < dJ D → (-2 ≤ t j ∧ t j ≤ 2) ∧ t' j = -t j) : zP D' t' (-1) = (zP D t (-1)).map mP := by
  have key : ∀ n, n ≤ dF D → zLf D' t' (-1) n = (zLf D t (-1) n).map mP := by
    intro n
    induction n with
    | zero =>
      intro _
      show zLw D' (-1) (dW D') = (zLw D (-1) (dW D)).map mP
      rw [hM.1.1]
      exact zLw_g hM _ (Nat.le_refl _)
    | succ n ih =>
      intro hn
      show zLf D' t' (-1) n ++ (if zac D' (-1) n = true then zLq D' t' n (dL D' n + 1) else []) = (zLf D t (-1) n ++ (if zac D (-1) n = true then zLq D t n (dL D n + 1) else [])).map mP
      rw [if_pos (zac_1 _ _), if_pos (zac_1 _ _), ih (by omega), List.map_append, (hM.2.2.1 n (by omega)).2.2.2, zLq_g hD hM ht (by omega) _ (Nat.le_refl _)]
  show zLf D' t' (-1) (dF D') = _
  rw [hM.1.2.1]
  exact key _ (Nat.le_refl _)
theorem zldo_g (hM : zMir D D') (ht : ∀ j, j < dJ D → (-2 ≤ t j ∧ t j ≤ 2) ∧ t' j = -t j) : zldo D' t' (-1) (dJ D') = zldo D t (-1) (dJ D) := by
  rw [hM.1.2.2]
  unfold zldo
  refine zsm_c (fun j hj => ?_)
  rw [if_pos (zac_1 _ _), if_pos (zac_1 _ _), (ht j hj).2, zab_g (ht j hj).1]
theorem zkd_g (hD : zDok D) (hM : zMir D D') (ht : ∀ j, j < dJ D → (-2 ≤ t j ∧ t j ≤ 2) ∧ t' j = -t j) (T : Nat) : zkd D' t' (-1) T = zkd D t (-1) T := by
  unfold zkd
  have e := zwrL_g (zP D t (-1)) zno
  rw [gS_no] at e
  rw [zP_g hD hM ht, e, zldo_g hM ht]
theorem zdk_g (hD : zDok D) (hM : zMir D D') (ht : ∀ j, j < dJ D → (-2 ≤ t j ∧ t j ≤ 2) ∧ t' j = -t j) : zdkL zno (zP D' t' (-1)) = gS (zdkL zno (zP D t (-1))) := by
  have e := zdkL_g (zP D t (-1)) zno
  rw [gS_no] at e
  rw [zP_g hD hM ht, e]
end MIR
/-! counts, the other way round -/
theorem zcnt_rev (P : Nat → Bool) : ∀ n, zcnt P n = zcnt (fun i => P (n - 1 - i)) n
  | 0 => rfl
  | n + 1 => by
    have h1 : zcnt (fun i => P (n + 1 - 1 - i)) (n + 1) = zcnt (fun i => P (n + 1 - 1 - i)) 1 + zcnt (fun i => P (n + 1 - 1 - (1 + i))) n := by
      rw [Nat.add_comm n 1, zcnt_add]
    have h2 : zcnt (fun i => P (n + 1 - 1 - (1 + i))) n = zcnt P n := by
      rw [zcnt_rev P n]
      exact zcnt_c (fun i hi => by rw [show n + 1 - 1 - (1 + i) = n - 1 - i by omega])
    have h3 : zcnt (fun i => P (n + 1 - 1 - i)) 1 = (if P n = true then 1 else 0) := by
      show 0 + (if P (n + 1 - 1 - 0) = true then 1 else 0) = _
      rw [Nat.zero_add]
      rfl
    rw [h1, h2, h3, zcnt_s]
    omega
theorem zcnt_g {P P' : Nat → Bool} {N : Nat} (h : ∀ i, i < N → P' (N - 1 - i) = P i) : zcnt P' N = zcnt P N := (zcnt_rev P' N).trans (zcnt_c h)
theorem zcard_c {S T : zS} (h : ∀ c, c < 120 → S c = T c) : zcard S = zcard T := zcnt_c h
theorem zcard_g (S : zS) : zcard (gS S) = zcard S := by
  have key : ∀ n, zcnt (gS S) (12 * n) = zcnt S (12 * n) := by
    intro n
    induction n with
    | zero => rfl
    | succ n ih =>
      rw [show 12 * (n + 1) = 12 * n + 12 by omega, zcnt_add, zcnt_add, ih]
      congr 1
      refine zcnt_g (fun i hi => ?_)
      show S (mC (12 * n + (12 - 1 - i))) = S (12 * n + i)
      exact congrArg S (by unfold mC; omega)
  exact key 10
theorem zmis_g {M M' S : zS} (hM : ∀ c, c < 120 → M' c = gS M c) : zmis M' (gS S) = zmis M S := by
  unfold zmis
  rw [← zcard_g (zdiff M S)]
  exact zcard_c (fun c hc => by unfold zdiff; rw [hM c hc]; rfl)
theorem zofB_g {M M' Y Y' S : zS} (hM : ∀ c, c < 120 → M' c = gS M c) (hY : ∀ c, c < 120 → Y' c = gS Y c) : zofB M' Y' (gS S) = zofB M Y S := by
  have e : zovr M' Y' (gS S) = zovr M Y S := by
    unfold zovr
    rw [← zcard_g (zdiff S (zun M Y))]
    exact zcard_c (fun c hc => by unfold zdiff zun; rw [hM c hc, hY c hc]; rfl)
  show zmis M' (gS S) + zovr M' Y' (gS S) = zmis M S + zovr M Y S
  rw [zmis_g hM, e]
theorem zcard_le2 {S T : zS} (h : ∀ c, c < 120 → S c = true → T c = true) : zcard S ≤ zcard T := by
  have key : ∀ n, n ≤ 120 → zcnt S n ≤ zcnt T n := by
    intro n
    induction n with
    | zero => intro _; exact Nat.le_refl _
    | succ n ih =>
      intro hn
      have h1 := ih (by omega)
      rw [zcnt_s, zcnt_s]
      by_cases h2 : S n = true
      · rw [if_pos h2, if_pos (h n (by omega) h2)]
        omega
      · rw [if_neg h2]
        omega
  exact key 120 (Nat.le_refl _)
theorem zcnt_le2 {P R : Nat → Bool} {N : Nat} (h : ∀ i, i < N → P i = true → R i = true) : zcnt P N ≤ zcnt R N := by
  have key : ∀ n, n ≤ N → zcnt P n ≤ zcnt R n := by
    intro n
    induction n with
    | zero => intro _; exact Nat.le_refl _
    | succ n ih =>
      intro hn
      have h1 := ih (by omega)
      rw [zcnt_s, zcnt_s]
      by_cases h2 : P n = true
      · rw [if_pos h2, if_pos (h n (by omega) h2)]
        omega
      · rw [if_neg h2]
        omega
  exact key N (Nat.le_refl _)
/-! codes, the other way round -/
theorem zdg_rev {sp : Nat → Nat} : ∀ {m i j : Nat}, (∀ j, j < m → 0 < sp j) → i < zpr sp m → j < m → zdg sp m (zpr sp m - 1 - i) j = sp j - 1 - zdg sp m i j
  | 0, i, j, _, _, hj => absurd hj (Nat.not_lt_zero _)
  | m + 1, i, j, hp, hi, hj => by
    have hs := hp m (Nat.lt_succ_self m)
    have hi : i < zpr sp m * sp m := hi
    show (if j = m then (zpr sp m * sp m - 1 - i) % sp m else zdg sp m ((zpr sp m * sp m - 1 - i) / sp m) j) = sp j - 1 - (if j = m then i % sp m else zdg sp m (i / sp m) j)
    have hq : i / sp m < zpr sp m := Nat.div_lt_of_lt_mul (by rw [Nat.mul_comm]; exact hi)
    have hr : i % sp m < sp m := Nat.mod_lt _ hs
    obtain ⟨k, hk⟩ : ∃ k, zpr sp m = i / sp m + 1 + k := ⟨zpr sp m - (i / sp m + 1), by omega⟩
    have e0 : zpr sp m * sp m = sp m * (i / sp m) + sp m + sp m * k := by
      rw [hk, Nat.add_mul, Nat.add_mul, Nat.one_mul, Nat.mul_comm (i / sp m), Nat.mul_comm k]
    have e1 := Nat.div_add_mod i (sp m)
    have e2 : zpr sp m * sp m - 1 - i = sp m * k + (sp m - 1 - i % sp m) := by omega
    rw [e2]
    by_cases h : j = m
    · subst h
      rw [if_pos rfl, if_pos rfl, Nat.mul_add_mod, Nat.mod_eq_of_lt (by omega)]
    · rw [if_neg h, if_neg h, Nat.mul_add_div hs, Nat.div_eq_of_lt (by omega), Nat.add_zero, show k = zpr sp m - 1 - i / sp m by omega]
      exact zdg_rev (fun j hj => hp j (by omega)) hq (by omega)
section MIRC
variable {D D' : zD} {T i j : Nat}
theorem zsp_g (hM : zMir D D') : ∀ j, j < dJ D → zsp D' j = zsp D j := fun j hj => by
  obtain ⟨-, h1, h2⟩ := hM.2.2.2 j hj
  unfold zsp
  omega
theorem zprN_g (hM : zMir D D') : zpr (zsp D') (dJ D') = zpr (zsp D) (dJ D) := by
  rw [hM.1.2.2]
  exact zpr_c (zsp_g hM)
theorem zcode_b (hD : zDok D) (hj : j < dJ D) : -2 ≤ zcode_t D i j ∧ zcode_t D i j ≤ 2 := by
  have h1 := zdg_lt (sp := zsp D) (m := dJ D) i (zsp_b hD hj).1 hj
  obtain ⟨-, h2, h3⟩ := hD.2.2.2.2.1 j hj
  have key : ∀ d, d < 5 → ∀ b, b < 3 → d ≤ b + 2 → (-2 : Int32) ≤ nI d - nI b ∧ nI d - nI b ≤ 2 := by decide +kernel
  unfold zsp at h1
  exact key _ (by unfold zsp; omega) _ (by omega) (by unfold zsp; omega)
theorem zcode_g (hD : zDok D) (hM : zMir D D') (hi : i < zpr (zsp D) (dJ D)) : ∀ j, j < dJ D → (-2 ≤ zcode_t D i j ∧ zcode_t D i j ≤ 2) ∧ zcode_t D' (zpr (zsp D) (dJ D) - 1 - i) j = -zcode_t D i j := fun j hj => by
  refine ⟨zcode_b hD hj, ?_⟩
  have hp : ∀ j, j < dJ D → 0 < zsp D j := fun j hj => (zsp_b hD hj).1
  show nI (zdg (zsp D') (dJ D') (zpr (zsp D) (dJ D) - 1 - i) j) - nI (dB D' j) = -(nI (zdg (zsp D) (dJ D) i j) - nI (dB D j))
  rw [hM.1.2.2, zdg_c _ _ (zsp_g hM), zdg_rev hp hi hj, (hM.2.2.2 j hj).2.1]
  have h1 := zdg_lt (sp := zsp D) (m := dJ D) i (hp j hj) hj
  generalize zdg (zsp D) (dJ D) i j = d at h1 ⊢
  have h2 : zsp D j = dB D j + dA D j + 1 := rfl
  have e : nI (zsp D j - 1 - d) = nI (dB D j) + nI (dA D j) - nI d := by
    rw [nI_add, nI_subE (a := dB D j + dA D j) (b := d) (by omega) rfl rfl]
    exact congrArg nI (by omega)
  rw [e]
  grind
theorem mQ_g (hD : zDok D) (hM : zMir D D') (hi : i < zpr (zsp D) (dJ D)) : mQ D' (-1) T (zpr (zsp D) (dJ D) - 1 - i) = mQ D (-1) T i := by
  unfold mQ
  rw [zkd_g hD hM (zcode_g hD hM hi) T]
theorem mSt_g (hD : zDok D) (hM : zMir D D') (hi : i < zpr (zsp D) (dJ D)) : mSt D' T (zpr (zsp D) (dJ D) - 1 - i) = mSt D T i := by
  unfold mSt
  rw [zkd_g hD hM (zcode_g hD hM hi) T]
theorem zthr_id {S : zS} (h : ∀ c, S c = true → c < 120) : zthr 1 3 3 S = S := by
  funext c
  rw [Bool.eq_iff_iff, zthr_m]
  constructor
  · rintro ⟨a, h1, h2, h3⟩
    have h3 := of_decide_eq_true h3
    have e : a = c := by omega
    rw [← e]
    exact h2
  · intro q
    exact ⟨c, h c q, q, decide_eq_true (by omega)⟩
theorem mS_1 (D : zD) (i : Nat) : mS D (-1) 1 3 3 i = zdkL zno (zP D (zcode_t D i) (-1)) := zthr_id (fun c hc => zdkL_lt hc)
theorem mS_g (hD : zDok D) (hM : zMir D D') (hi : i < zpr (zsp D) (dJ D)) : mS D' (-1) 1 3 3 (zpr (zsp D) (dJ D) - 1 - i) = gS (mS D (-1) 1 3 3 i) := by
  rw [mS_1, mS_1, zdk_g hD hM (zcode_g hD hM hi)]
theorem mF_g {M M' Y Y' : zS} (hD : zDok D) (hM : zMir D D') (hm : ∀ c, c < 120 → M' c = gS M c) (hy : ∀ c, c < 120 → Y' c = gS Y c) (hi : i < zpr (zsp D) (dJ D)) : mF D' (-1) 1 3 3 M' Y' (zpr (zsp D) (dJ D) - 1 - i) = mF D (-1) 1 3 3 M Y i := by
  unfold mF
  rw [mS_g hD hM hi]
  exact zofB_g hm hy
/-- the least of f where P holds -/
def zmn (P : Nat → Bool) (f : Nat → Nat) (N : Nat) : Option Nat := (zbst P f N).map f
theorem zmn_e {P P' : Nat → Bool} {f f' : Nat → Nat} {N N' : Nat} (h1 : ∀ i, i < N → P i = true → ∃ k, k < N' ∧ P' k = true ∧ f' k = f i) (h2 : ∀ k, k < N' → P' k = true → ∃ i, i < N ∧ P i = true ∧ f i = f' k) : zmn P f N = zmn P' f' N' := by
  unfold zmn
  rcases zbst_ok P f N with ⟨e, g⟩ | ⟨b, e, g1, g2, g3⟩
  · rcases zbst_ok P' f' N' with ⟨e', g'⟩ | ⟨b', e', g1', g2', g3'⟩
    · rw [e, e']
      rfl
    · obtain ⟨i, q1, q2, q3⟩ := h2 b' g1' g2'
      exact absurd q2 (g i q1)
  · obtain ⟨k, q1, q2, q3⟩ := h1 b g1 g2
    rcases zbst_ok P' f' N' with ⟨e', g'⟩ | ⟨b', e', g1', g2', g3'⟩
    · exact absurd q2 (g' k q1)
    · obtain ⟨i, p1, p2, p3⟩ := h2 b' g1' g2'
      rw [e, e']
      show some (f b) = some (f' b')
      have a1 := g3' k q1 q2
      have a2 := g3 i p1 p2
      congr 1
      omega
theorem zmn_rev {P P' : Nat → Bool} {f f' : Nat → Nat} {N : Nat} (h1 : ∀ i, i < N → P' (N - 1 - i) = P i) (h2 : ∀ i, i < N → f' (N - 1 - i) = f i) : zmn P' f' N = zmn P f N := by
  refine zmn_e (fun k hk q => ⟨N - 1 - k, by omega, ?_, ?_⟩) (fun i hi q => ⟨N - 1 - i, by omega, by rw [h1 i hi]; exact q, h2 i hi⟩)
  · have := h1 (N - 1 - k) (by omega)
    rw [show N - 1 - (N - 1 - k) = k by omega] at this
    rw [← this]
    exact q
  · have := h2 (N - 1 - k) (by omega)
    rw [show N - 1 - (N - 1 - k) = k by omega] at this
    exact this.symm
theorem zev_g (hD : zDok D) (hM : zMir D D') : zev D' 1 3 3 T = gS (zev D 1 3 3 T) := by
  funext c
  rw [Bool.eq_iff_iff]
  unfold zev gS
  rw [zprN_g hM, zuni_m, zuni_m]
  constructor
  · rintro ⟨k, h1, h2, h3⟩
    have hk : zpr (zsp D) (dJ D) - 1 - k < zpr (zsp D) (dJ D) := by omega
    have e1 := mQ_g (T := T) hD hM hk
    have e2 := mS_g hD hM hk
    rw [show zpr (zsp D) (dJ D) - 1 - (zpr (zsp D) (dJ D) - 1 - k) = k by omega] at e1 e2
    refine ⟨_, hk, by rw [← e1]; exact h2, ?_⟩
    rw [e2] at h3
    exact h3
  · rintro ⟨i, h1, h2, h3⟩
    refine ⟨zpr (zsp D) (dJ D) - 1 - i, by omega, by rw [mQ_g hD hM h1]; exact h2, ?_⟩
    rw [mS_g hD hM h1]
    exact h3
end MIRC
