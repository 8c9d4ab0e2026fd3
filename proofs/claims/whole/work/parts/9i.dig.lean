/-! digest: both alike -/
theorem zcnts {w : zW} {D : zD} {n nl c k : Nat} (hR : qR w) (hX : qX w) (hB : qB w) (hH : qH w D) (hP : qP w D n) (hK : qK w n nl c) (hk : k < 10) : m_count w n k = c_count w n k := by
  have e1 : zcnt (cHeld w) n = zcnt (mC1 w 4) n := zcnt_c (fun p hp => by
    unfold cHeld mC1
    rw [(hP.2.2.2 p hp).2.2.2.1.1]
    simp only [show (nI 4 = (4 : Int32)) from rfl, true_and])
  have e2 : zcnt (cThere w) 6 = zcnt (mC2 w 5) 6 := zcnt_c (fun p hp => by
    unfold cThere mC2
    rw [(hB p hp).1]
    simp only [show (nI 5 = (5 : Int32)) from rfl, true_and, show ¬ ((5 : Int32) = 8) by decide, false_and, or_false])
  have e3 : zcnt (cRows w) 6 = zcnt (mC2 w 8) 6 := zcnt_c (fun p hp => by
    unfold cRows mC2
    rw [(hR p hp).1]
    simp only [show (nI 8 = (8 : Int32)) from rfl, true_and, show ¬ ((8 : Int32) = 5) by decide, false_and, false_or])
  have e4 : zcnt (cTexts w) 4 = zcnt (mC3 w 9) 4 := zcnt_c (fun p hp => by
    unfold cTexts mC3
    rw [(hX p hp).1]
    simp only [show (nI 9 = (9 : Int32)) from rfl, true_and])
  have z1 : ∀ k, ¬ nI k = 4 → zcnt (mC1 w k) n = 0 := fun k hk => zcnt_no (fun p _ q => hk (of_decide_eq_true q).1)
  have z2 : ∀ k, ¬ nI k = 5 → ¬ nI k = 8 → zcnt (mC2 w k) 6 = 0 := fun k h5 h8 => zcnt_no (fun p _ q => by
    rcases of_decide_eq_true q with q | q
    · exact h5 q.1
    · exact h8 q.1)
  have z3 : ∀ k, ¬ nI k = 9 → zcnt (mC3 w k) 4 = 0 := fun k hk => zcnt_no (fun p _ q => hk (of_decide_eq_true q).1)
  rcases (show k = 0 ∨ k = 1 ∨ k = 2 ∨ k = 3 ∨ k = 4 ∨ k = 5 ∨ k = 6 ∨ k = 7 ∨ k = 8 ∨ k = 9 by omega) with g | g | g | g | g | g | g | g | g | g <;> subst g
  · exact hH.2.2.1.1.1.trans hH.2.1.1.1.symm
  · exact hH.2.2.1.1.2.1.trans hH.2.1.1.2.1.symm
  · exact hH.2.2.1.1.2.2.trans hH.2.1.1.2.2.symm
  · exact hP.2.2.1.trans hP.2.1.symm
  · show nI (zcnt (mC1 w 4) n + zcnt (mC2 w 4) 6 + zcnt (mC3 w 4) 4) = nI (zcnt (cHeld w) n)
    rw [e1, z2 4 (by decide) (by decide), z3 4 (by decide)]
    rfl
  · show nI (zcnt (mC1 w 5) n + zcnt (mC2 w 5) 6 + zcnt (mC3 w 5) 4) = nI (zcnt (cThere w) 6)
    rw [e2, z1 5 (by decide), z3 5 (by decide), Nat.zero_add]
    rfl
  · exact hK.1.2.2.1.trans hK.1.2.1.symm
  · exact hK.2.2.2.1.trans hK.2.2.1.symm
  · show nI (zcnt (mC1 w 8) n + zcnt (mC2 w 8) 6 + zcnt (mC3 w 8) 4) = nI (zcnt (cRows w) 6)
    rw [e3, z1 8 (by decide), z3 8 (by decide), Nat.zero_add]
    rfl
  · show nI (zcnt (mC1 w 9) n + zcnt (mC2 w 9) 6 + zcnt (mC3 w 9) 4) = nI (zcnt (cTexts w) 4)
    rw [e4, z1 9 (by decide), z2 9 (by decide) (by decide), Nat.zero_add]
theorem zit_3 {g : Nat → Int64 → Int64} {f : Nat → Int64 → Int64} : ∀ {n : Nat} {h : Int64}, (∀ i h, i < n → g (3 * i + 2) (g (3 * i + 1) (g (3 * i) h)) = f i h) → zit g (3 * n) h = zit f n h
  | 0, _, _ => rfl
  | n + 1, h, e => by
    rw [show 3 * (n + 1) = 3 * n + 1 + 1 + 1 by omega]
    show g (3 * n + 1 + 1) (g (3 * n + 1) (g (3 * n) (zit g (3 * n) h))) = f n (zit f n h)
    rw [zit_3 (f := f) (fun i h hi => e i h (by omega))]
    exact e n _ (by omega)
theorem zit_4 {g : Nat → Int64 → Int64} {f : Nat → Int64 → Int64} : ∀ {n : Nat} {h : Int64}, (∀ i h, i < n → g (4 * i + 3) (g (4 * i + 2) (g (4 * i + 1) (g (4 * i) h))) = f i h) → zit g (4 * n) h = zit f n h
  | 0, _, _ => rfl
  | n + 1, h, e => by
    rw [show 4 * (n + 1) = 4 * n + 1 + 1 + 1 + 1 by omega]
    show g (4 * n + 1 + 1 + 1) (g (4 * n + 1 + 1) (g (4 * n + 1) (g (4 * n) (zit g (4 * n) h)))) = f n (zit f n h)
    rw [zit_4 (f := f) (fun i h hi => e i h (by omega))]
    exact e n _ (by omega)
theorem kS_c {f g : Nat → Int32} {x y : Int32} {L : Nat} {h : Int64} (hL : L < 5000) (hx : zSz x L) (e : y = x) (ef : ∀ m, x = nI m → m ≤ L → ∀ i, i < m → f i = g i) : kS f y h = kS g x h := by
  subst e
  unfold kS
  rcases zsz_n hL hx with ⟨e1, e2⟩ | ⟨m, hm, e1, e2⟩
  · rw [e2, zit_0, zit_0]
  · rw [e2]
    exact zit_c (fun i h hi => by rw [ef m e1 hm i hi])
theorem zdigC_it {S : zS} {h : Int64} : zdigC S h = zit (fun y h => mx h (nI (zline S y))) 10 h := zmixL_it
theorem zO_digest {G : zG} : zOl G mX11_digest mX12_digest [] := by
  intro w h
  have h0 := h
  obtain ⟨hw, hT, hR, hX, hB, D, z, u, v, T, n, nl, c, hH, hL, hS, hP, hK⟩ := h
  obtain ⟨hD, hH1, hM, hRe⟩ := hH
  obtain ⟨b, b1, b2⟩ := qB_b hB
  have h12 := hP.1
  have cc := s_X11_digest (G := G) hw hD hH1 h12 hP.2.1 b1 hK.1.1 hK.2.1 hK.1.2.1 hK.2.2.1 (fun r hr => by rw [(hR r hr).1]; exact (hR r hr).2.1) (fun r hr => by rw [(hX r hr).1]; exact (hX r hr).2.1)
  have cm := s_X12_digest (G := G) (t := fun p => w.1 (48 + 4 * p)) hw hM hD hS.2.2 hL.2.2 h12 hP.2.2.1 (fun p hp => ⟨(hP.2.2.2 p hp).1, (hP.2.2.2 p hp).2.2.1⟩) b2 hK.1.1 hK.2.1 hK.1.2.2.1 hK.2.2.2.1 (fun r hr => (hR r hr).2.1) (fun r hr => (hX r hr).2.1)
  refine zEl_c cc (zCl_m cm (fun r w1 g => ?_))
  obtain ⟨rfl, k1, k2, k3⟩ := g
  constructor
  · have e1 : mx (mx (zit (fun k h => mx h (m_count w n k)) 10 17) (nI T)) (nI (lc z u v)) = cd1 w n := by
      unfold cd1
      rw [hS.2.1, hL.2.1.1, hL.2.1.2.1, hL.2.1.2.2, zcode_lc]
      rw [zit_c (g := fun k h => mx h (c_count w n k)) (fun k h hk => by rw [zcnts hR hX hB ⟨hD, hH1, hM, hRe⟩ hP hK hk])]
    have e2 : ∀ q, mdH w D q = cd2 w D q := fun q => by
      unfold mdH cd2
      rw [zit_c (f := fun k h => mx h (w.1 173 k)) (g := kW w) (fun i h hi => by unfold kW; rw [hM.2.1 i hi, hH1.2.1 i hi])]
      rw [zit_4 (f := kF w) (fun i h hi => by
        have a1 := hM.2.2.1 i hi
        have a2 := hH1.2.2.1 i hi
        unfold kF
        rw [a1.1, a1.2.1, a1.2.2.1, a1.2.2.2, a2.1, a2.2.1, a2.2.2.1, a2.2.2.2])]
      rw [zit_3 (f := kJ w) (fun i h hi => by
        have a1 := hM.2.2.2 i hi
        have a2 := hH1.2.2.2 i hi
        unfold kJ
        rw [a1.1, a1.2.1, a1.2.2, a2.1, a2.2.1, a2.2.2])]
    have e3 : ∀ q, zit (mPo w D (fun p => w.1 (48 + 4 * p))) n q = cd3 w D n q := fun q => by
      unfold cd3
      refine zit_c (fun p h hp => ?_)
      have g := hP.2.2.2 p hp
      unfold mPo kP
      rw [show zit (mA w (fun p => w.1 (48 + 4 * p)) p) 3 h = mx (mx (mx h (w.1 183 (3 * p))) (nI (zld (w.1 (48 + 4 * p))))) (w.1 183 (3 * p + 1)) from rfl, g.2.2.2.1.1, g.2.2.2.1.2.1, g.2.2.2.1.2.2]
      exact zit_c (fun j h hj => by unfold mTn kT; rw [g.2.2.1 j hj])
    have e4 : ∀ q, zit (mBt w b) 6 q = cd4 w b q := fun q => by
      unfold cd4
      refine zit_c (fun k h hk => ?_)
      have g := (b2 k hk).1
      unfold mBt kB
      by_cases ht : bT b k = true
      · rw [if_pos ht, if_pos ht, zdigC_it, zdigC_it, (hB k hk).2.2.1]
        rw [zit_c (f := mU2 w k) (g := fun y h => mx h (nI (zline (bM b k) y))) (fun y h hy => by unfold mU2; rw [(g y hy).1])]
        rw [zit_c (f := mY2 w k) (g := fun y h => mx h (nI (zline (bY b k) y))) (fun y h hy => by unfold mY2; rw [(g y hy).2])]
      · rw [if_neg ht, if_neg ht]
    have e5 : ∀ q, mdB w b nl c q = cd5 w nl c (cd4 w b q) := fun q => by
      unfold mdB cd5
      rw [e4]
      rw [zit_3 (f := kC w) (fun i h hi => by
        have a := (hK.2.2.2.2 i hi).1
        unfold kC
        rw [a.1, a.2.1, a.2.2])]
      rw [zit_3 (f := kL w) (fun i h hi => by
        show _ = zit (kU w i) 3 h
        rw [show zit (kU w i) 3 h = mx (mx (mx h (w.1 (116 + i) 0)) (w.1 (116 + i) 1)) (w.1 (116 + i) 2) from rfl, (hK.1.2.2.2 i 0 hi (by decide)).1, (hK.1.2.2.2 i 1 hi (by decide)).1, (hK.1.2.2.2 i 2 hi (by decide)).1]
        rfl)]
    have e6 : ∀ q, mS6 w q = cd6 w q := fun q => by
      unfold mS6 cd6
      exact zit_c (fun r h hr => (kS_c (by decide) (hR r hr).2.1 (hR r hr).1 (fun m em hm i hi => by rw [show 4 + 2 * r + 1 = 5 + 2 * r by omega]; exact (hR r hr).2.2 m em hm i hi)).symm)
    have e7 : ∀ q, mS7 w q = cd7 w q := fun q => by
      unfold mS7 cd7
      exact zit_c (fun r h hr => (kS_c (by decide) (hX r hr).2.1 (hX r hr).1 (fun m em hm i hi => by rw [show 17 + 2 * r + 1 = 18 + 2 * r by omega]; exact (hX r hr).2.2 m em hm i hi)).symm)
    unfold mdg
    rw [e1, e2, e3, e5, e6, e7]
  · have hF : zFr [179, 180, 181] [166] [29] w w1 := k1
    refine zQ_told h0 (zFr_wf hF hw) hF.2 (by decide) ?_
    unfold qT
    rw [hF.2.1 1 (by decide) (by decide), hF.2.1 2 (by decide) (by decide), hF.2.1 167 (by decide) (by decide), hF.2.2.1 1 (by decide), k2 3 (by decide), k2 4 (by decide), hF.2.2.2 0 (by decide), hF.2.2.2 2 (by decide)]
    exact hT
