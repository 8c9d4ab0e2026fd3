section OB
variable {G : zG} {w : zW} {D : zD} {M Y : zS} {T : Nat}
theorem zline_lt (S : zS) (y : Nat) : zline S y < 4096 := zbits_lt _ 12
theorem zofl_line (S : zS) : ∀ c, c < 120 → zofL (zline S) c = S c := fun c hc => by
  show (zbits (fun x => S (12 * (c / 12) + x)) 12).testBit (c % 12) = S c
  rw [zbits_bit]
  have h1 : c % 12 < 12 := Nat.mod_lt _ (by decide)
  rw [decide_eq_true h1, Bool.true_and]
  exact congrArg S (Nat.div_add_mod c 12)
theorem R5_shf {S : zS} (h : R5 w S) : c_shf w 5 5 = 0 := by
  unfold c_shf
  have e : w.1 (4 + 2 * 5) 0 = nI 10 := h.1
  have el : zLok (w.1 (5 + 2 * 5)) := fun i hi => by
    rw [show w.1 (5 + 2 * 5) i = nI (zline S i) from h.2 i hi]
    have := zline_lt S i
    exact ⟨nI_pos' (by omega), nI_le (b := 4095) (by omega) (by decide)⟩
  rw [e, if_neg (fun q => q ⟨by decide, by decide⟩), if_neg (fun q => q ⟨by decide, by decide⟩), if_pos ⟨el, el⟩]
/-- turns that hold throw just this -/
theorem rJ_in {c z u v : Nat} {S W : zS} (h : Ob w D M Y T) (hc : c < nT D) (hk : zkd D (zcode_t D c) (-1) T = 1) (hz : z = 1 ∧ u = 3 ∧ v = 3) (hW : ∀ a, a < 120 → W a = mS D (-1) 1 3 3 c a) : 0 < zcnt (rJ D (-1) z u v T W) (zN_ D (-1) (dF D)) := by
  obtain ⟨rfl, rfl, rfl⟩ := hz
  have hD := h.2.1.1
  rcases Nat.eq_zero_or_pos (zcnt (rJ D (-1) 1 3 3 T W) (zN_ D (-1) (dF D))) with e | e
  · exfalso
    refine zcnt_0.mp e c (by rw [zN_code hD]; exact hc) ?_
    unfold rJ
    rw [Bool.and_eq_true, rH_code hD hc]
    refine ⟨decide_eq_true hk, decide_eq_true ?_⟩
    have e1 : zthr 1 3 3 (zdkL zno (rL D (-1) (dF D) c)) = mS D (-1) 1 3 3 c := by rw [rL_code hD]; rfl
    rw [e1]
    exact ⟨zT_eq.mpr (fun a ha => hW a (by omega)), zLo_eq.mpr (fun a ha => hW (60 + a) (by omega))⟩
  · exact e
theorem o_sets {c : Nat} (h : Ob w D M Y T) (hc : c < nT D) (hk : zkd D (zcode_t D c) (-1) T = 1) (hR : R5 w (mS D (-1) 1 3 3 c)) : zCi G mX11_sets [.ref 0, .int (nI 5)] w (fun r w' => (∃ m, r = nI m ∧ 1 ≤ m ∧ m ≤ 4096) ∧ S5 w w') := by
  have hD := h.2.1.1
  refine zCi_m (s_X11_sets h.1 hD h.2.2.1 h.2.2.2.1 h.2.1.2 h.2.2.2.2.2.1.1 h.2.2.2.2.2.1.2 h.2.2.2.2.1 ⟨by decide, by decide⟩ (by decide) (R5_shf hR) hR.1 hR.2) (fun r w' q => ⟨⟨_, q.1, ?_, ?_⟩, S5_lit q.2.1 (by decide)⟩)
  · exact rJ_in (S := zno) h hc hk ⟨rfl, rfl, rfl⟩ (zofl_line _)
  · have h1 := zcnt_le (rJ D (-1) 1 3 3 T (zofL (zline (mS D (-1) 1 3 3 c)))) (zN_ D (-1) (dF D))
    have h2 := h.2.1.2
    rw [← zN_code hD] at h2
    omega
theorem o_picture {c : Nat} (h : Ob w D M Y T) (hc : c < nT D) (hk : zkd D (zcode_t D c) (-1) T = 1) (hR : R5 w (mS D (-1) 1 3 3 c)) : zCi G mX11_picture [.ref 0, .int (nI 5)] w (fun r w' => (∃ m, r = nI m ∧ m < 100000) ∧ (∃ m, w'.1 1 0 = nI m ∧ 1 ≤ m ∧ m ≤ 4096) ∧ S5 w w') := by
  have hD := h.2.1.1
  refine zCi_m (s_X11_picture h.1 hD h.2.2.1 h.2.2.2.1 h.2.1.2 h.2.2.2.2.2.1.1 h.2.2.2.2.2.1.2 (by decide) (R5_shf hR) hR.1 hR.2) (fun r w' q => ?_)
  obtain ⟨q1, q2, q3⟩ := q
  have h24 : 0 < gJ D T (zofL (zline (mS D (-1) 1 3 3 c))) 24 := rJ_in (S := zno) h hc hk ⟨rfl, rfl, rfl⟩ (zofl_line _)
  rcases q1 with ⟨n, n1, n2, n3, n4, n5⟩ | ⟨n1, -⟩
  · refine ⟨⟨_, n4, ?_⟩, ⟨_, n5, n3, ?_⟩, S5_lit q2 (by decide)⟩
    · unfold lc lz lu lv
      omega
    · have h1 := zcnt_le (rJ D (-1) (lz n) (lu n) (lv n) T (zofL (zline (mS D (-1) 1 3 3 c)))) (zN_ D (-1) (dF D))
      have h2 := h.2.1.2
      rw [← zN_code hD] at h2
      unfold gJ
      omega
  · have := n1 24 (by decide)
    omega
/-- the beast that is told again and again -/
def B1 (w : zW) (M1 : zS) : Prop := ¬ w.1 99 3 = 0 ∧ cBe w 1 M1 M1
theorem B1_f {w w' : zW} {M1 : zS} (h : B1 w M1) (hF : Sc w w') : B1 w' M1 := by
  refine ⟨?_, zHas_o h.2.1 (hF.2.2.1 _ (by decide)), zHas_o h.2.2 (hF.2.2.1 _ (by decide))⟩
  rw [hF.2.1 99 (by decide) (by decide)]
  exact h.1
theorem zHas_set {w : zW} {k : Nat} {S : zS} : zHas (zsetS w k S) k S := by
  unfold zHas zsetS
  constructor
  · rw [zsl_2, if_neg (fun q => absurd q.2 (by decide)), zsl_2, if_pos ⟨rfl, rfl⟩]
  · rw [zsl_2, if_pos ⟨rfl, rfl⟩]
theorem zHas_oth {w : zW} {k j : Nat} {S T : zS} (h : zHas w k S) (hj : k ≠ j) : zHas (zsetS w j T) k S := by
  unfold zHas zsetS
  rw [zsl_2, if_neg (fun q => hj q.1), zsl_2, if_neg (fun q => hj q.1), zsl_2, if_neg (fun q => hj q.1), zsl_2, if_neg (fun q => hj q.1)]
  exact h
theorem o_beast1 {S : zS} {n : Nat} {cs : Nat → Nat} (h : Ob w D M Y T) (hP : Ps w D T n cs) (hR : R5 w S) : zCi G mX11_beast [.ref 0, .int (nI 1), .int (nI 5), .int (nI 5), .int (nI 0)] w (fun r w' => r = nI (zcard S) ∧ (Ob w' D M Y T ∧ Ps w' D T n cs) ∧ B1 w' (zofL (zline S)) ∧ w'.1 1 = w.1 1) := by
  have hs := s_X11_beast (G := G) (w := w) (k := 1) (r := 5) (t := 5) (m := 0) (f := zline S) (g := zline S) h.1 (by decide) (by decide) (by decide) (by decide) (R5_shf hR) hR.1 hR.1 hR.2 hR.2
  have hF : zFr [99] [100, 101] [] w (zsi (zsi (zsetS (zsetS w (97 + 3 * 1) (zofL (zline S))) (98 + 3 * 1) (zofL (zline S))) (96 + 3 * 1) 2 0) (96 + 3 * 1) 3 1) := zFr_t (zFr_t (zFr_t (zFr_t (zFr_t (zFr_l (by decide)) (zFr_l (by decide))) (zFr_l (by decide))) (zFr_l (by decide))) (zFr_i (by decide) (by decide))) (zFr_i (by decide) (by decide))
  refine zEi_c hs ⟨?_, ⟨Ob_f h hF (by decide +kernel), Ps_f hP hF (by decide +kernel) (by decide +kernel)⟩, ⟨?_, ?_, ?_⟩, ?_⟩
  · exact congrArg nI (zcard_c (zofl_line S))
  · rw [zsi_1, if_pos ⟨rfl, rfl⟩]
    decide
  · exact zHas_o (w := zsetS (zsetS w 100 (zofL (zline S))) 101 (zofL (zline S))) (zHas_oth zHas_set (by decide)) rfl
  · exact zHas_o (w := zsetS (zsetS w 100 (zofL (zline S))) 101 (zofL (zline S))) zHas_set rfl
  · exact hF.2.1 1 (by decide) (by decide)
theorem zofB_0 {M1 S : zS} (h : ∀ c, c < 120 → M1 c = S c) : zofB M1 M1 S = 0 := by
  have e1 : zmis M1 S = 0 := by
    unfold zmis zcard
    refine zcnt_0.mpr (fun c hc => ?_)
    unfold zdiff
    rw [h c hc]
    cases S c <;> decide
  have e2 : zovr M1 M1 S = 0 := by
    unfold zovr zcard
    refine zcnt_0.mpr (fun c hc => ?_)
    unfold zdiff zun
    rw [h c hc]
    cases S c <;> decide
  show zmis M1 S + zovr M1 M1 S = 0
  rw [e1, e2]
theorem zmn_0 {P : Nat → Bool} {f : Nat → Nat} {N c : Nat} (hc : c < N) (hP : P c = true) (h0 : f c = 0) : zmn P f N = some 0 := by
  unfold zmn
  rcases zbst_ok P f N with ⟨e, g⟩ | ⟨b, e, g1, g2, g3⟩
  · exact absurd hP (g c hc)
  · rw [e]
    have := g3 c hc hP
    exact congrArg some (by omega)
theorem zmn_le {P : Nat → Bool} {f : Nat → Nat} {N c : Nat} (hc : c < N) (hP : P c = true) : ∃ m, zmn P f N = some m ∧ m ≤ f c := by
  unfold zmn
  rcases zbst_ok P f N with ⟨e, g⟩ | ⟨b, e, g1, g2, g3⟩
  · exact absurd hP (g c hc)
  · rw [e]
    exact ⟨_, rfl, g3 c hc hP⟩
theorem near1_0 {c : Nat} (hc : c < nT D) (hk : zkd D (zcode_t D c) (-1) T = 1) : zoe (zmn (mQ D (-1) T) (mF D (-1) 1 3 3 (zofL (zline (mS D (-1) 1 3 3 c))) (zofL (zline (mS D (-1) 1 3 3 c)))) (nT D)) = 0 := by
  rw [zmn_0 hc (decide_eq_true hk) (zofB_0 (zofl_line _))]
  rfl
theorem o_where {n p k : Nat} {cs : Nat → Nat} {M1 Y1 : zS} (h : Ob w D M Y T) (hP : Ps w D T n cs) (hp : p < n) (hk : k < 6) (ht : ¬ w.1 (96 + 3 * k) 3 = 0) (hB : cBe w k M1 Y1) : zCi G mX11_where [.ref 0, .int (nI p), .int (nI k)] w (fun r w' => (∃ m, r = nI m ∧ m ≤ zofB M1 Y1 (mS D (-1) 1 3 3 (cs p))) ∧ S5 w w') := by
  have h5 := hP.1
  obtain ⟨⟨h1, h2, ⟨h3, h4⟩, -⟩, -⟩ := hP.2.2 p hp
  refine zCi_m (s_X11_where h.1 (n := n) (by omega) hP.2.1 hp hk ht h3 h4 hB) (fun r w' q => ?_)
  obtain ⟨q1, q2, -⟩ := q
  refine ⟨?_, S5_lit q2 (by decide)⟩
  obtain ⟨m, m1, m2⟩ := zmn_le (P := fun _ => true) (f := lF (mS D (-1) 1 3 3 (cs p)) (w.1 (47 + 4 * p) 3) zno M1 Y1) (N := 98) (c := 24) (by decide) rfl
  refine ⟨m, ?_, ?_⟩
  · rw [q1]
    show zoe (zmn _ _ 98) = _
    rw [m1]
    rfl
  · have e : lF (mS D (-1) 1 3 3 (cs p)) (w.1 (47 + 4 * p) 3) zno M1 Y1 24 = zofB M1 Y1 (mS D (-1) 1 3 3 (cs p)) := by
      show zofB M1 Y1 (zshS 1 3 3 (mS D (-1) 1 3 3 (cs p)) (w.1 (47 + 4 * p) 3) zno) = _
      unfold zshS
      rw [if_neg (by rw [h1]; exact zk_n5), mS_th]
    rw [← e]
    exact m2
/-- a pose is put into the book -/
theorem o_pose {n c : Nat} {cs : Nat → Nat} (h : Ob w D M Y T) (hP : Ps w D T n cs) (hn : n < 5) (hc : c < nT D) (hS : w.1 12 0 = nI (dJ D)) (hv : ∀ j, j < dJ D → w.1 13 j = zcode_t D c j) : zCi G mX11_pose [.ref 0, .int (nI 4), .int (-9)] w (fun r w' => r = nI n ∧ Ob w' D M Y T ∧ Ps w' D T (n + 1) (fun p => if p = n then c else cs p) ∧ w'.1 1 0 = zkd D (zcode_t D c) (-1) T) := by
  have hD := h.2.1.1
  have hJ6 := hD.1.2.2
  have hg : ∀ j, j < dJ D → zRget w (4 + 2 * 4) (nI j) = zcode_t D c j := fun j hj => (zRget_in (m := dJ D) hS (by omega) hj).trans (hv j hj)
  have hturn : zturn w D (4 + 2 * 4) := fun j hj => by
    rw [hg j hj]
    have h1 := zdg_lt (sp := zsp D) (m := dJ D) c (zsp_b hD hj).1 hj
    obtain ⟨-, h2, h3⟩ := hD.2.2.2.2.1 j hj
    have key : ∀ b, b < 3 → ∀ a, a < 3 → ∀ d, d < 5 → d ≤ b + a → -nI b ≤ nI d - nI b ∧ nI d - nI b ≤ nI a := by decide +kernel
    unfold zsp at h1
    exact key _ (by omega) _ (by omega) _ (by unfold zsp; omega) (by unfold zsp; omega)
  refine zCi_m (s_X11_pose_g (r := 4) (j := -9) h.1 h.2.2.1 hD (by decide) (Or.inl rfl) (Or.inr ⟨dJ D, by omega, hS⟩) (by rw [show w.1 (4 + 2 * 4) 0 = nI (dJ D) from hS]; exact nI_pos' (by omega)) hS hturn (Or.inl rfl) (by omega) hP.2.1 h.2.2.2.2.2.1.1 h.2.2.2.2.2.1.2) (fun r w' q => ?_)
  obtain ⟨q1, w2, w3, ⟨a1, a2, a3, a4⟩, b1, rfl⟩ := q
  have ht : ∀ j, j < dJ D → w2.1 (48 + 4 * n) j = zcode_t D c j := fun j hj => (a2 j (by omega)).trans (hg j hj)
  have ht0 : ∀ j, dJ D ≤ j → j < 6 → w2.1 (48 + 4 * n) j = 0 := fun j h1 h2 => by
    rw [a2 j h2]
    unfold zRget
    exact if_neg (fun q => by
      have q2 := q.2
      rw [show w.1 (4 + 2 * 4) 0 = nI (dJ D) from hS] at q2
      exact absurd (nI_le h1 (by omega)) (Int32.not_le.mpr q2))
  have eP : zP D (w2.1 (48 + 4 * n)) (-1) = zP D (zcode_t D c) (-1) := zLf_lt hD (Nat.le_refl _) (fun j hj => ht j (by rw [← hD.2.2.2.1]; exact hj))
  have eL : zld (w2.1 (48 + 4 * n)) = zldo D (zcode_t D c) (-1) (dJ D) := by
    unfold zld zldo
    have e1 : zsm (fun j => zab (w2.1 (48 + 4 * n) j)) 6 = zsm (fun j => zab (w2.1 (48 + 4 * n) j)) (dJ D) + zsm (fun i => zab (w2.1 (48 + 4 * n) (dJ D + i))) (6 - dJ D) := by
      rw [← zsm_add, show dJ D + (6 - dJ D) = 6 by omega]
    have e2 : zsm (fun i => zab (w2.1 (48 + 4 * n) (dJ D + i))) (6 - dJ D) = zsm (fun _ => 0) (6 - dJ D) := zsm_c (fun i hi => by rw [ht0 _ (by omega) (by omega)]; decide)
    have e3 : ∀ m, zsm (fun _ => 0) m = 0 := by
      intro m
      induction m with
      | zero => rfl
      | succ m ih => exact ih
    rw [e1, e2, e3, Nat.add_zero]
    exact zsm_c (fun j hj => by rw [if_pos (zac_1 _ _), ht j hj])
  have ek : jk D (w2.1 (48 + 4 * n)) (-9) T = zkd D (zcode_t D c) (-1) T := by
    unfold jk jw jm zkd
    rw [if_pos rfl, if_pos rfl, if_pos rfl, eP, eL]
  obtain ⟨b2, b3, ⟨b4, b5, b6, b7, b8⟩, b9⟩ := b1
  have e48 : w3.1 (48 + 4 * n) = w2.1 (48 + 4 * n) := b3
  have hF2 : zFr (kPo ++ [1]) (163 :: kPo) [] w w3 := by
    refine zFr_t ⟨a1.1, fun a h1 h2 => a1.2.1 a (fun z => h1 ?_) h2, fun a h1 => a1.2.2.1 a (fun z => h1 ?_), a1.2.2.2⟩ ⟨b2.1, fun a h1 h2 => b2.2.1 a (fun z => h1 ?_) h2, fun a h1 => b2.2.2.1 a (fun z => h1 ?_), b2.2.2.2⟩
    · simp only [List.mem_cons, List.not_mem_nil, or_false] at z
      exact List.mem_append_left _ (kPo_m (by omega) (by omega))
    · simp only [List.mem_cons, List.not_mem_nil, or_false] at z
      exact List.mem_cons_of_mem _ (kPo_m (by omega) (by omega))
    · simp only [List.mem_cons, List.not_mem_nil, or_false] at z
      exact List.mem_append_left _ (kPo_m (by omega) (by omega))
    · simp only [List.mem_cons, List.not_mem_nil, or_false] at z
      rcases z with z | z
      · exact List.mem_cons_of_mem _ (kPo_m (by omega) (by omega))
      · rw [z]
        exact List.mem_cons_self
  have hO3 : Ob w3 D M Y T := Ob_f h hF2 (by decide +kernel)
  have hO4 : Ob (zsi w3 1 0 (jk D (w2.1 (48 + 4 * n)) (-9) T)) D M Y T := Sc_o hO3 Sc_1
  have e0 : ∀ a, a ≠ 0 → (zsi (zsi w3 1 0 (jk D (w2.1 (48 + 4 * n)) (-9) T)) 0 10 (nI (n + 1))).1 a = (zsi w3 1 0 (jk D (w2.1 (48 + 4 * n)) (-9) T)).1 a := fun a ha => by
    funext i
    rw [zsi_1, if_neg (fun q => ha q.1)]
  have e1 : ∀ a, a ≠ 0 → a ≠ 1 → (zsi (zsi w3 1 0 (jk D (w2.1 (48 + 4 * n)) (-9) T)) 0 10 (nI (n + 1))).1 a = w3.1 a := fun a ha ha2 => by
    rw [e0 a ha]
    funext i
    rw [zsi_1, if_neg (fun q => ha2 q.1)]
  refine ⟨q1, ?_, ⟨by omega, by rw [zsi_1, if_pos ⟨rfl, rfl⟩], fun p hp => ?_⟩, ?_⟩
  · obtain ⟨g1, g2, g3, g4, g5, g6, g7, g8⟩ := hO4
    refine ⟨g1, g2, cHd_o g3 (fun a z1 z2 => e0 a (by omega)), ?_, ?_, ⟨g6.1, ?_⟩, ?_, g8⟩
    · unfold cRe cStep cOwn cOwn1 cRow
      rw [e0 131 (by decide), e0 132 (by decide), e0 133 (by decide), e0 134 (by decide), e0 139 (by decide), e0 140 (by decide)]
      exact g4
    · unfold zLm
      rw [e0 44 (by decide)]
      exact g5
    · rw [zsi_1, if_neg (fun q => absurd q.2 (by decide))]
      exact g6.2
    · rw [e0 96 (by decide)]
      exact g7
  · by_cases e : p = n
    · subst e
      show Po _ D T p (if p = p then c else cs p) ∧ (if p = p then c else cs p) < nT D
      rw [if_pos rfl]
      refine ⟨⟨?_, ?_, ⟨?_, ?_⟩, fun j hj => ?_⟩, hc⟩
      · rw [e1 _ (by omega) (by omega), b4, ← ek]
        rfl
      · rw [e1 _ (by omega) (by omega), b6, eL]
      · show zHas w3 (49 + 4 * p) _
        rw [mS_1, ← eP]
        exact b9
      · show zHas w3 (50 + 4 * p) zno
        exact zHas_o a4 (b2.2.2.1 _ (by simp; omega))
      · rw [e1 _ (by omega) (by omega), e48]
        exact ht j hj
    · show Po _ D T p (if p = n then c else cs p) ∧ (if p = n then c else cs p) < nT D
      rw [if_neg e]
      obtain ⟨⟨g1, g2, ⟨g3, g4⟩, g5⟩, g6⟩ := hP.2.2 p (by omega)
      have f1 : ∀ a, a ≠ 47 + 4 * n → a ≠ 48 + 4 * n → a ≠ 166 → w3.1 a = w.1 a := fun a z1 z2 z3 => (b2.2.1 a (by simp; exact ⟨z1, z2⟩) z3).trans (a1.2.1 a (by simp; exact ⟨z1, z2⟩) z3)
      have f2 : ∀ a, a ≠ 49 + 4 * n → a ≠ 50 + 4 * n → a ≠ 163 → w3.2.1 a = w.2.1 a := fun a z1 z2 z3 => (b2.2.2.1 a (by simp; exact ⟨z1, z3⟩)).trans (a1.2.2.1 a (by simp; exact z2))
      refine ⟨⟨?_, ?_, ⟨zHas_o g3 (f2 _ (by omega) (by omega) (by omega)), zHas_o g4 (f2 _ (by omega) (by omega) (by omega))⟩, fun j hj => ?_⟩, g6⟩
      · rw [e1 _ (by omega) (by omega), f1 _ (by omega) (by omega) (by omega)]
        exact g1
      · rw [e1 _ (by omega) (by omega), f1 _ (by omega) (by omega) (by omega)]
        exact g2
      · rw [e1 _ (by omega) (by omega), f1 _ (by omega) (by omega) (by omega)]
        exact g5 j hj
  · rw [e0 1 (by decide), zsi_1, if_pos ⟨rfl, rfl⟩, ek]
/-! ways -/
/-- what way says of two codes -/
def wA (D : zD) (T : Nat) (c e : Nat) (r : Int32) : Prop := (¬ (zkd D (zcode_t D c) (-1) T = 1 ∧ zkd D (zcode_t D e) (-1) T = 1) ∧ r = -3) ∨ ((zkd D (zcode_t D c) (-1) T = 1 ∧ zkd D (zcode_t D e) (-1) T = 1) ∧ ∃ res, r = zoe res ∧ zDs (zadj (zsp D) (dJ D)) (rH D (-1) T) c e res)
theorem Sc_find {w : zW} {k : Nat} : S5 w (zfind w k) := zFr_t (zFr_i (by decide) (by decide)) (zFr_i (by decide) (by decide))
theorem rH_1 (hD : zDok D) {c : Nat} (hc : c < nT D) (hk : zkd D (zcode_t D c) (-1) T = 1) : rH D (-1) T c = true := by
  rw [rH_code hD hc]
  exact decide_eq_true hk
theorem o_way {n p q : Nat} {cs : Nat → Nat} (h : Ob w D M Y T) (hP : Ps w D T n cs) (hp : p < n) (hq : q < n) : zCi G mX11_way [.ref 0, .int (nI p), .int (nI q)] w (fun r w' => wA D T (cs p) (cs q) r ∧ S5 w w') := by
  have h5 := hP.1
  have hD := h.2.1.1
  obtain ⟨⟨p1, p2, p3, p4⟩, p5⟩ := hP.2.2 p hp
  obtain ⟨⟨q1, q2, q3, q4⟩, q5⟩ := hP.2.2 q hq
  by_cases hk : zkd D (zcode_t D (cs p)) (-1) T = 1 ∧ zkd D (zcode_t D (cs q)) (-1) T = 1
  · have hh : zheldk (w.1 (47 + 4 * p) 3) ∧ zheldk (w.1 (47 + 4 * q) 3) := by
      rw [p1, q1]
      exact ⟨zk_hd.mpr hk.1, zk_hd.mpr hk.2⟩
    refine zCi_m (s_X11_way (d := zdg (zsp D) (dJ D) (cs p)) (e := zdg (zsp D) (dJ D) (cs q)) h.1 hD h.2.2.1 h.2.2.2.1 h.2.1.2 h.2.2.2.2.2.1.1 h.2.2.2.2.2.1.2 (n := n) (by omega) hP.2.1 hp hq hh p4 q4 (by rw [zcd_dg p5]; exact p5) (by rw [zcd_dg q5]; exact q5)) (fun r w' z => ?_)
    rw [zcd_dg p5, zcd_dg q5, rH_1 hD p5 hk.1] at z
    obtain ⟨z1, z2⟩ := z
    refine ⟨Or.inr ⟨hk, ?_⟩, S5_lit z1 (by decide)⟩
    rcases z2 with ⟨z2, -⟩ | ⟨-, z2⟩
    · cases z2
    · exact z2
  · refine zEi_c (s_X11_way_n h.1 (n := n) (by omega) hP.2.1 hp hq (fun z => hk ?_)) ⟨Or.inl ⟨hk, rfl⟩, Sc_find⟩
    rw [p1, q1] at z
    exact ⟨zk_hd.mp z.1, zk_hd.mp z.2⟩
/-- what unseen says -/
def uA (D : zD) (T : Nat) (M Y : zS) (c e : Nat) (r : Int32) : Prop := (¬ (zkd D (zcode_t D c) (-1) T = 1 ∧ zkd D (zcode_t D e) (-1) T = 1) ∧ r = -3) ∨ ((zkd D (zcode_t D c) (-1) T = 1 ∧ zkd D (zcode_t D e) (-1) T = 1) ∧ ∃ res, r = zoe res ∧ zDs (zadj (zsp D) (dJ D)) (rU D 1 3 3 T M Y c e 3) c e res)
theorem o_unseen {n p q : Nat} {cs : Nat → Nat} (h : Ob w D M Y T) (hP : Ps w D T n cs) (hp : p < n) (hq : q < n) : zCi G mX11_unseen [.ref 0, .int (nI p), .int (nI q), .int (nI 0), .int (nI 3)] w (fun r w' => uA D T M Y (cs p) (cs q) r ∧ S5 w w') := by
  have h5 := hP.1
  have hD := h.2.1.1
  obtain ⟨⟨p1, p2, p3, p4⟩, p5⟩ := hP.2.2 p hp
  obtain ⟨⟨q1, q2, q3, q4⟩, q5⟩ := hP.2.2 q hq
  by_cases hk : zkd D (zcode_t D (cs p)) (-1) T = 1 ∧ zkd D (zcode_t D (cs q)) (-1) T = 1
  · have hh : zheldk (w.1 (47 + 4 * p) 3) ∧ zheldk (w.1 (47 + 4 * q) 3) := by
      rw [p1, q1]
      exact ⟨zk_hd.mpr hk.1, zk_hd.mpr hk.2⟩
    refine zCi_m (s_X11_unseen (d := zdg (zsp D) (dJ D) (cs p)) (e := zdg (zsp D) (dJ D) (cs q)) h.1 hD h.2.2.1 h.2.2.2.1 h.2.1.2 h.2.2.2.2.2.1.1 h.2.2.2.2.2.1.2 h.2.2.2.2.1 ⟨by decide, by decide⟩ (n := n) (by omega) hP.2.1 hp hq (by decide) (by decide) hh h.2.2.2.2.2.2.1 h.2.2.2.2.2.2.2 p4 q4 (by rw [zcd_dg p5]; exact p5) (by rw [zcd_dg q5]; exact q5)) (fun r w' z => ?_)
    have hU : rU D 1 3 3 T M Y (cs p) (cs q) 3 (cs p) = true := by
      unfold rU
      rw [rH_1 hD p5 hk.1, decide_eq_true (show cs p = cs p from rfl)]
      rfl
    rw [zcd_dg p5, zcd_dg q5, hU] at z
    obtain ⟨z1, z2⟩ := z
    refine ⟨Or.inr ⟨hk, ?_⟩, S5_lit z1 (by decide)⟩
    rcases z2 with ⟨z2, -⟩ | ⟨-, z2⟩
    · cases z2
    · exact z2
  · refine zEi_c (s_X11_unseen_n h.1 (n := n) (by omega) hP.2.1 hp hq (by decide) (by decide) (fun z => hk ?_)) ⟨Or.inl ⟨hk, rfl⟩, Sc_find⟩
    rw [p1, q1] at z
    exact ⟨zk_hd.mp z.1, zk_hd.mp z.2⟩
end OB
