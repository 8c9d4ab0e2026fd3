theorem qP1_d {w : zW} {D : zD} {p : Nat} (h : qP1 w D p) : ∃ d : Nat → Nat, (∀ j, j < dJ D → d j < zsp D j) ∧ ∀ j, j < dJ D → w.1 (48 + 4 * p) j = ztv D d j := by
  refine ⟨fun j => if hj : j < dJ D then (h.2.1 j hj).choose else 0, fun j hj => ?_, fun j hj => ?_⟩
  · simp only [hj, dif_pos]
    exact (h.2.1 j hj).choose_spec.1
  · unfold ztv
    simp only [hj, dif_pos]
    exact (h.2.1 j hj).choose_spec.2
theorem zRc_b {E : Nat → Nat → Prop} {O O' : Nat → Bool} {p N : Nat} (hE : ∀ u v, u < N → E u v → v < N) (hp : p < N) (hO : ∀ v, v < N → O v = O' v) : ∀ {m v : Nat}, zRc E O p m v → v < N ∧ zRc E O' p m v
  | 0, v, q => ⟨by have q : v = p := q; omega, q⟩
  | m + 1, v, ⟨u, h1, h2, h3, h4⟩ => by
    have ih := zRc_b hE hp hO h1
    have hv := hE u v ih.1 h2
    exact ⟨hv, u, ih.2, h2, (hO v hv) ▸ h3, h4⟩
theorem zDs_b {E : Nat → Nat → Prop} {O O' : Nat → Bool} {p N v : Nat} (hE : ∀ u v, u < N → E u v → v < N) (hp : p < N) (hO : ∀ v, v < N → O v = O' v) {r : Option Nat} (q : zDs E O p v r) : zDs E O' p v r := by
  have hO' : ∀ v, v < N → O' v = O v := fun v hv => (hO v hv).symm
  cases r with
  | none => exact fun k z => q k (zRc_b hE hp hO' z).2
  | some m => exact ⟨(zRc_b hE hp hO q.1).2, fun k hk z => q.2 k hk (zRc_b hE hp hO' z).2⟩
/-- what isn't open is never come to -/
theorem zDs_no {E : Nat → Nat → Prop} {O : Nat → Bool} {p v : Nat} (hv : O v = false) (hne : v ≠ p) {r : Option Nat} (q : zDs E O p v r) : r = none := by
  cases r with
  | none => rfl
  | some m =>
    have h := q.1
    cases m with
    | zero => exact absurd h hne
    | succ m =>
      obtain ⟨u, _, _, h3, _⟩ := h
      rw [hv] at h3
      cases h3
theorem zadj_lt {sp : Nat → Nat} {m i k : Nat} (hp : ∀ j, j < m → 0 < sp j) (hi : i < zpr sp m) (h : zadj sp m i k) : k < zpr sp m := by
  obtain ⟨j, hj, ⟨rfl, h⟩ | ⟨e, _⟩⟩ := h
  · exact zdg_up hp hj hi h
  · omega
theorem zO_way {G : zG} (p q : Int32) : zOi G mX11_way mX12_way [.int p, .int q] := by
  intro w h
  have h0 := h
  obtain ⟨hw, hT, hR, hX, hB, D, z, u, v, T, n, nl, c, hH, hL, hS, hP, hK⟩ := h
  obtain ⟨hD, hH1, hM, hRe⟩ := hH
  have h12 := hP.1
  by_cases hk0 : (0 ≤ p ∧ p < nI n) ∧ (0 ≤ q ∧ q < nI n)
  · obtain ⟨p, hp, rfl⟩ := rn (by omega) hk0.1
    obtain ⟨q, hq, rfl⟩ := rn (by omega) hk0.2
    have gp := hP.2.2.2 p hp
    have gq := hP.2.2.2 q hq
    by_cases hk : (w.1 183 (3 * p) = 1 ∨ w.1 183 (3 * p) = 4 ∨ w.1 183 (3 * p) = 5) ∧ (w.1 183 (3 * q) = 1 ∨ w.1 183 (3 * q) = 4 ∨ w.1 183 (3 * q) = 5)
    · have hk' : zheldk (w.1 (47 + 4 * p) 3) ∧ zheldk (w.1 (47 + 4 * q) 3) := by rw [gp.2.2.2.1.1, gq.2.2.2.1.1]; exact hk
      by_cases hN : 4096 < zpr (zsp D) (dJ D)
      · exact zOe (s_X11_way_s hw h12 hP.2.1 hp hq hk' (by rw [hRe.2.2.1, if_pos hN])) (s_X12_way_s hw hM hD h12 hP.2.2.1 hp hq hk hN) rfl h0
      · obtain ⟨d, hdl, hd⟩ := qP1_d gp
        obtain ⟨e, hel, he⟩ := qP1_d gq
        have hdN := zcd_lt hdl
        have heN := zcd_lt hel
        refine zCi_m (s_X11_way (G := G) hw hD hH1 hRe (by omega) hS.1 hS.2.1 h12 hP.2.1 hp hq hk' hd he hdN heN) (fun r w1 g => ?_)
        obtain ⟨k1, g⟩ := g
        refine zCi_m (s_X12_way (G := G) (w := w1) (T := T) (zFr_wf k1 hw) (mHd_f hM k1 (by decide)) hD (by omega) hS.1 (by rw [k1.2.2.2 24 (by decide)]; exact hS.2.2) h12 (by rw [k1.2.2.2 33 (by decide)]; exact hP.2.2.1) hp hq (by rw [k1.2.1 183 (by decide) (by decide)]; exact hk) hdl hel (fun j hj => by rw [k1.2.1 184 (by decide) (by decide), gp.2.2.1 j hj]; exact hd j hj) (fun j hj => by rw [k1.2.1 184 (by decide) (by decide), gq.2.2.1 j hj]; exact he j hj)) (fun r' w2 g' => ?_)
        obtain ⟨k2, g'⟩ := g'
        have hF : zFr [147, 148, 149, 179, 180, 181, 194, 195, 196] [] [29] w w2 := zFr_t (zFr_s k1 (by decide)) (zFr_s k2 (by decide))
        refine ⟨?_, zQ_told h0 (zFr_wf hF hw) hF.2 (by decide) (qT_f hT hF.2 (by decide))⟩
        generalize zcd (zsp D) d (dJ D) = P at *
        generalize zcd (zsp D) e (dJ D) = Q at *
        have ep : rH D (-1) T P = mQ D (-1) T P := rH_code hD hdN
        have eq : rH D (-1) T Q = mQ D (-1) T Q := rH_code hD heN
        rcases g with ⟨g1, rfl⟩ | ⟨g1, res, rfl, g2⟩
        · rcases g' with ⟨_, rfl⟩ | ⟨g3, _⟩
          · rfl
          · rw [ep, mQ_t.mpr g3.1] at g1
            cases g1
        · rcases g' with ⟨g3, rfl⟩ | ⟨g3, res', rfl, g4⟩
          · have nq : ¬ zkd D (zcode_t D Q) (-1) T = 1 := fun z => g3 ⟨mQ_t.mp (ep ▸ g1), z⟩
            have hq0 : rH D (-1) T Q = false := by
              rw [eq]
              exact Bool.eq_false_iff.mpr (fun z => nq (mQ_t.mp z))
            have hne : Q ≠ P := fun z => by rw [z, g1] at hq0; cases hq0
            rw [zDs_no hq0 hne g2]
            rfl
          · have g5 := zDs_b (N := zpr (zsp D) (dJ D)) (O' := fun v => mQ D (-1) T v || decide (v = Q)) (fun a b ha hb => zadj_lt (fun j hj => (zsp_b hD hj).1) ha hb) hdN (fun a ha => by
              rw [rH_code hD ha]
              by_cases ea : a = Q
              · rw [ea, mQ_t.mpr g3.2]
                rfl
              · simp [ea]) g2
            rw [zDs_u g4 g5]
    · exact zO_find h0 3 (s_X11_way_n hw h12 hP.2.1 hp hq (by rw [gp.2.2.2.1.1, gq.2.2.2.1.1]; exact hk)) (s_X12_way_n (zfind_w hw) h12 (by rw [zfind_a (by decide) (by decide)]; exact hP.2.2.1) hp hq (by rw [zfind_a (by decide) (by decide)]; exact hk))
  · exact zOe (s_X11_way_bad hw p q (by rw [hP.2.1]; exact hk0)) (s_X12_way_bad h12 hP.2.2.1 p q hk0) rfl h0
