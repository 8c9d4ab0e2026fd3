abbrev mL_law : zM := (⟨RL, "law", "([I)Z"⟩, code, 20, some .boolean, 11, 390, 600000, 7302250)
/-- a call on one of the two, the world behind it by its name -/
theorem zl_callO {G : zG} {X : zX} {M M' : zM} {n cells slots pc : Nat} {lo st st0 : List Value} {Wd : Bool → zW} {a3 : zA3} {b : Bool} {idx a : Nat} {As : List Value} {Q1 : Int32 → zW → Prop} (hX : zH G X M) (hu : zUn n) (hn : 332 ≤ n) (d : decode M.2.1 pc = .ok (.invokevirtual idx, 3)) (hy : zCal M' a) (hm : Cond.methodLink M.1.cls idx M'.1 ∈ zTB) (hv : zVir M' 11) (hr : zRoom M M' = true)
    (hC : zC (zGb G b) M' (.ref 0 :: As) 166 (Wd b) 166 (fun v w1 => ∃ r, v = some (.int r) ∧ Q1 r w1)) (ha : As.length = a) (hi : As.all zisI = true) (hst : st0 = As.reverse ++ .ref (zro b) :: st)
    (hw : (st.map fun v => v.category).sum ≤ 8) (h0 : (M'.2.2.2.2.2.2.1, M'.2.2.2.2.2.2.2) = (0, 0)) (hf : cells ≤ M.2.2.2.2.2.2.1 ∧ slots ≤ M.2.2.2.2.2.2.2)
    (kk : ∀ r Wd1, zot Wd Wd1 b → Q1 r (Wd1 b) → zk G X M n cells slots (pc + 3) lo (.int r :: st) (zcm Wd1 a3)) : zk G X M n cells slots pc lo st0 (zcm Wd a3) :=
  zl_callV hX hu hn d hy hm hv hr hC ha hi hst hw h0 hf (fun r w1 q => kk r _ zot_u (by rw [zub_s]; exact q))
/-- the glass' numbers on the way: h hands, f fingers, j joints are done -/
def pm (D : zD) (h f j : Nat) : zD := (dW D, dF D, dJ D, fun i => if i < h then 12 * (dw D i / 12) + (11 - dw D i % 12) else dw D i, dO D, fun i => if i < f then (8 - dS D i) % 8 else dS D i, dI D, dL D, dH D, fun i => if i < j then dA D i else dB D i, fun i => if i < j then dB D i else dA D i)
theorem pm_0 (D : zD) : pm D 0 0 0 = D := rfl
theorem aH_e {f : Nat → Int32} {D D' : zD} (h : aH f D) (e : eqD D' D) : aH f D' := by
  obtain ⟨⟨h1, h2, h3⟩, h4, h5, h6⟩ := h
  obtain ⟨⟨e1, e2, e3⟩, e4, e5, e6⟩ := e
  refine ⟨⟨by rw [e1]; exact h1, by rw [e2]; exact h2, by rw [e3]; exact h3⟩, fun k hk => ?_, fun g hg => ?_, fun j hj => ?_⟩
  · rw [e4 k (by omega)]
    exact h4 k (by omega)
  · obtain ⟨a, b, c, d⟩ := e5 g (by omega)
    rw [a, b, c, d]
    exact h5 g (by omega)
  · obtain ⟨a, b, c⟩ := e6 j (by omega)
    rw [a, b, c]
    exact h6 j (by omega)
theorem aH_g {f f' : Nat → Int32} {D : zD} (hD : zDok D) (h : aH f D) (e : ∀ i, i < 64 → f' i = f i) : aH f' D := by
  obtain ⟨⟨h1, h2, h3⟩, h4, h5, h6⟩ := h
  obtain ⟨d1, d2, d3⟩ := hD.1
  refine ⟨⟨by rw [e 0 (by decide)]; exact h1, by rw [e 3 (by decide)]; exact h2, by rw [e 4 (by decide)]; exact h3⟩, fun k hk => ?_, fun g hg => ?_, fun j hj => ?_⟩
  · rw [e _ (by omega)]
    exact h4 k hk
  · rw [e _ (by omega), e _ (by omega), e _ (by omega), e _ (by omega)]
    exact h5 g hg
  · rw [e _ (by omega), e _ (by omega), e _ (by omega)]
    exact h6 j hj
theorem aH_hand {f : Nat → Int32} {D : zD} {i : Nat} (hD : zDok D) (h : aH f (pm D i 0 0)) (hi : i < dW D) : aH (fu f (1 + i) (nI (12 * (dw D i / 12) + (11 - dw D i % 12)))) (pm D (i + 1) 0 0) := by
  obtain ⟨⟨h1, h2, h3⟩, h4, h5, h6⟩ := h
  obtain ⟨d1, d2, d3⟩ := hD.1
  refine ⟨⟨(fu_n (by omega)).trans h1, (fu_n (by omega)).trans h2, (fu_n (by omega)).trans h3⟩, fun k hk => ?_, fun g hg => ?_, fun j hj => ?_⟩
  · have h9 := h4 k hk
    show _ = nI (if k < i + 1 then _ else _)
    have h9 : f (1 + k) = nI (if k < i then 12 * (dw D k / 12) + (11 - dw D k % 12) else dw D k) := h9
    by_cases e : k = i
    · subst e
      rw [fu_s, if_pos (Nat.lt_succ_self _)]
    · rw [fu_n (by omega), h9]
      by_cases e2 : k < i
      · rw [if_pos e2, if_pos (by omega)]
      · rw [if_neg e2, if_neg (by omega)]
  · rw [fu_n (by omega), fu_n (by omega), fu_n (by omega), fu_n (by omega)]
    exact h5 g hg
  · rw [fu_n (by omega), fu_n (by omega), fu_n (by omega)]
    exact h6 j hj
theorem aH_fing {f : Nat → Int32} {D : zD} {W i : Nat} (hD : zDok D) (h : aH f (pm D W i 0)) (hi : i < dF D) : aH (fu f (9 + 4 * i) (nI ((8 - dS D i) % 8))) (pm D W (i + 1) 0) := by
  obtain ⟨⟨h1, h2, h3⟩, h4, h5, h6⟩ := h
  obtain ⟨d1, d2, d3⟩ := hD.1
  refine ⟨⟨(fu_n (by omega)).trans h1, (fu_n (by omega)).trans h2, (fu_n (by omega)).trans h3⟩, fun k hk => ?_, fun g hg => ?_, fun j hj => ?_⟩
  · have hk : k < dW D := hk
    rw [fu_n (by omega)]
    exact h4 k hk
  · obtain ⟨a, b, c, d⟩ := h5 g hg
    have hg : g < dF D := hg
    rw [fu_n (by omega), fu_n (show 10 + 4 * g ≠ 9 + 4 * i by omega), fu_n (show 11 + 4 * g ≠ 9 + 4 * i by omega)]
    refine ⟨a, ?_, c, d⟩
    show _ = nI (if g < i + 1 then _ else _)
    have b : f (9 + 4 * g) = nI (if g < i then (8 - dS D g) % 8 else dS D g) := b
    by_cases e : g = i
    · subst e
      rw [fu_s, if_pos (Nat.lt_succ_self _)]
    · rw [fu_n (by omega), b]
      by_cases e2 : g < i
      · rw [if_pos e2, if_pos (by omega)]
      · rw [if_neg e2, if_neg (by omega)]
  · have hj : j < dJ D := hj
    rw [fu_n (by omega), fu_n (by omega), fu_n (by omega)]
    exact h6 j hj
theorem aH_jnt {f : Nat → Int32} {D : zD} {W F i : Nat} (hD : zDok D) (h : aH f (pm D W F i)) (hi : i < dJ D) : aH (fu (fu f (41 + 3 * i) (nI (dA D i))) (42 + 3 * i) (nI (dB D i))) (pm D W F (i + 1)) := by
  obtain ⟨⟨h1, h2, h3⟩, h4, h5, h6⟩ := h
  obtain ⟨d1, d2, d3⟩ := hD.1
  refine ⟨⟨(fu_n (by omega)).trans ((fu_n (by omega)).trans h1), (fu_n (by omega)).trans ((fu_n (by omega)).trans h2), (fu_n (by omega)).trans ((fu_n (by omega)).trans h3)⟩, fun k hk => ?_, fun g hg => ?_, fun j hj => ?_⟩
  · have hk : k < dW D := hk
    rw [fu_n (by omega), fu_n (by omega)]
    exact h4 k hk
  · have hg9 : g < dF D := hg
    rw [fu_n (by omega), fu_n (by omega), fu_n (by omega), fu_n (by omega), fu_n (by omega), fu_n (by omega), fu_n (by omega), fu_n (by omega)]
    exact h5 g hg
  · obtain ⟨a, b, c⟩ := h6 j hj
    have hj : j < dJ D := hj
    rw [fu_n (show 40 + 3 * j ≠ 42 + 3 * i by omega), fu_n (show 40 + 3 * j ≠ 41 + 3 * i by omega)]
    refine ⟨a, ?_, ?_⟩
    · show _ = nI (if j < i + 1 then _ else _)
      have b : f (41 + 3 * j) = nI (if j < i then dA D j else dB D j) := b
      by_cases e : j = i
      · subst e
        rw [fu_n (by omega), fu_s, if_pos (Nat.lt_succ_self _)]
      · rw [fu_n (by omega), fu_n (by omega), b]
        by_cases e2 : j < i
        · rw [if_pos e2, if_pos (by omega)]
        · rw [if_neg e2, if_neg (by omega)]
    · show _ = nI (if j < i + 1 then _ else _)
      have c : f (42 + 3 * j) = nI (if j < i then dB D j else dA D j) := c
      by_cases e : j = i
      · subst e
        rw [fu_s, if_pos (Nat.lt_succ_self _)]
      · rw [fu_n (by omega), fu_n (by omega), c]
        by_cases e2 : j < i
        · rw [if_pos e2, if_pos (by omega)]
        · rw [if_neg e2, if_neg (by omega)]
/-- seen in a glass -/
def gDm (D : zD) : zD := pm D (dW D) (dF D) (dJ D)
theorem gDm_mir (D : zD) : zMir D (gDm D) := by
  refine ⟨⟨rfl, rfl, rfl⟩, fun h hh => ?_, fun f hf => ⟨rfl, if_pos hf, rfl, rfl⟩, fun j hj => ⟨rfl, if_pos hj, if_pos hj⟩⟩
  have e : dw (gDm D) h = 12 * (dw D h / 12) + (11 - dw D h % 12) := if_pos hh
  rw [e]
  exact ⟨by omega, by omega⟩
theorem gDm_ok {D : zD} {c : Nat → Nat} (h : gD D c) : gD (gDm D) c := by
  obtain ⟨⟨h1, h2, h3, h4, h5, h6⟩, g2, g3, g4, g5, g6⟩ := h
  refine ⟨⟨h1, fun h hh => ?_, fun f hf => ?_, ?_, fun j hj => ?_, fun f i hf hi => ?_⟩, g2, fun h hh => ?_, g4, g5, g6⟩
  · have e : dw (gDm D) h = 12 * (dw D h / 12) + (11 - dw D h % 12) := if_pos hh
    have := (g3 h hh).1
    rw [e]
    omega
  · obtain ⟨a, b, c, d⟩ := h3 f hf
    refine ⟨a, ?_, c, ?_⟩
    · have e : dS (gDm D) f = (8 - dS D f) % 8 := if_pos hf
      rw [e]
      omega
    · rw [zoff_c (D := gDm D) (D' := D) (fun _ _ => rfl)]
      exact d
  · rw [zoff_c (D := gDm D) (D' := D) (fun _ _ => rfl)]
    exact h4
  · obtain ⟨a, b, c⟩ := h5 j hj
    have e1 : dB (gDm D) j = dA D j := if_pos hj
    have e2 : dA (gDm D) j = dB D j := if_pos hj
    rw [e1, e2]
    exact ⟨a, c, b⟩
  · rw [zoff_c (D := gDm D) (D' := D) (fun _ _ => rfl)]
    exact h6 f i hf hi
  · have e : dw (gDm D) h = 12 * (dw D h / 12) + (11 - dw D h % 12) := if_pos hh
    have := g3 h hh
    rw [e]
    refine ⟨⟨by omega, by omega⟩, by omega, by omega⟩
theorem zMir_e {D D' E E' : zD} (h : zMir D D') (e : eqD E D) (e' : eqD E' D') : zMir E E' := by
  obtain ⟨⟨h1, h2, h3⟩, h4, h5, h6⟩ := h
  obtain ⟨⟨a1, a2, a3⟩, a4, a5, a6⟩ := e
  obtain ⟨⟨b1, b2, b3⟩, b4, b5, b6⟩ := e'
  refine ⟨⟨by omega, by omega, by omega⟩, fun h hh => ?_, fun f hf => ?_, fun j hj => ?_⟩
  · rw [a4 h (by omega), b4 h (by omega)]
    exact h4 h (by omega)
  · obtain ⟨p1, p2, p3, p4⟩ := a5 f (by omega)
    obtain ⟨q1, q2, q3, q4⟩ := b5 f (by omega)
    rw [p1, p2, p3, p4, q1, q2, q3, q4]
    exact h5 f (by omega)
  · obtain ⟨p1, p2, p3⟩ := a6 j (by omega)
    obtain ⟨q1, q2, q3⟩ := b6 j (by omega)
    rw [p1, p2, p3, q1, q2, q3]
    exact h6 j (by omega)
/-- the cells of arrays that nobody has written yet -/
def zr (a : zA3) : Prop := ∀ q, 334 ≤ q → ∀ j, a q j = 0
theorem zr_u {a : zA3} {k j : Nat} {x : Int32} (h : zr a) (hk : k < 334) : zr (zu3 a k j x) := fun q hq i => by
  rw [zu3_k (by omega)]
  exact h q hq i
section LAW
variable {G : zG} {X : zX} {Wd : Bool → zW} {sl : Nat}
abbrev lo9 : List Value := [.float 0, .ref 0, .ref 166, .ref 332, .ref 333, .ref 334, .ref 335]
/-- h is copied to g, then g is seen in a glass -/
theorem lw_glass {D : zD} {c : Nat → Nat} (hX : zH G X mL_law) (hsl : Nat.ble sl 7302250 = true) (hg : gD D c) (K : ∀ (a1 : zA3) (v7 : Value), zr a1 → aH (a1 332) D → aH (a1 333) (gDm D) → zk G X mL_law 336 336 sl 222 (lo9 ++ [v7, .null, .null, .null, .null, .null, .null, .null, .null, .null, .null, .null, .null]) [] (zcm Wd a1)) : ∀ a3 : zA3, zr a3 → aH (a3 332) D → zk G X mL_law 336 336 sl 47 (lo9 ++ [.null, .null, .null, .null, .null, .null, .null, .null, .null, .null, .null, .null, .null]) [] (zcm Wd a3) := by
  have hn : zLn 336 := Or.inl rfl
  have hu := zLn_u hn
  have hD := hg.1
  obtain ⟨d1, d2, d3⟩ := hD.1
  have l5 : ∀ z j a1, j + z = dJ D → zr a1 → aH (a1 332) D → aH (a1 333) (pm D (dW D) (dF D) j) → zk G X mL_law 336 336 sl 170 (lo9 ++ [.int (nI j), .null, .null, .null, .null, .null, .null, .null, .null, .null, .null, .null, .null]) [] (zcm Wd a1) := by
    intro z
    induction z with
    | zero =>
      intro j a1 hj h0 h1 h2
      obtain rfl : j = dJ D := by omega
      refine zk_iload hX dL_law_170 rfl ?_
      refine zk_aload_n hX dL_law_172 rfl ?_
      refine zk_iconst (v := 4) hX dL_law_173 (by decide) ?_
      refine zl_ialdE hX dL_law_174 (nI_k 4 rfl) (ar_332 hn) (by first | assumption | omega) ?_
      rw [h1.1.2.2]
      refine zk_icmp_ge (tgt := 222) hX dL_law_175 (by decide) (fun c175 => ?_) (fun c175 => ?_)
      rotate_left
      · exact absurd (nI_le (Nat.le_refl _) (by omega)) c175
      exact K _ _ h0 h1 h2
    | succ z ih =>
      intro j a1 hj h0 h1 h2
      obtain ⟨-, e1, e2⟩ := h1.2.2.2 j (by omega)
      refine zk_iload hX dL_law_170 rfl ?_
      refine zk_aload_n hX dL_law_172 rfl ?_
      refine zk_iconst (v := 4) hX dL_law_173 (by decide) ?_
      refine zl_ialdE hX dL_law_174 (nI_k 4 rfl) (ar_332 hn) (by first | assumption | omega) ?_
      rw [h1.1.2.2]
      refine zk_icmp_ge (tgt := 222) hX dL_law_175 (by decide) (fun c175 => ?_) (fun c175 => ?_)
      · exact absurd c175 (nI_ge (by omega) (by omega))
      refine zk_aload hX dL_law_178 rfl ?_
      refine zk_bipush (v := 41) hX dL_law_180 (by decide) ?_
      refine zk_iconst (v := 3) hX dL_law_182 (by decide) ?_
      refine zk_iload hX dL_law_183 rfl ?_
      refine zk_imul hX dL_law_185 ?_
      refine zk_iadd hX dL_law_186 ?_
      refine zk_aload_n hX dL_law_187 rfl ?_
      refine zk_bipush (v := 42) hX dL_law_188 (by decide) ?_
      refine zk_iconst (v := 3) hX dL_law_190 (by decide) ?_
      refine zk_iload hX dL_law_191 rfl ?_
      refine zk_imul hX dL_law_193 ?_
      refine zk_iadd hX dL_law_194 ?_
      refine zl_ialdE hX dL_law_195 (nI_addE (nI_k 42 rfl) (nI_mulE (nI_k 3 rfl) rfl)) (ar_332 hn) (by first | assumption | omega) ?_
      rw [e2]
      refine zl_iastE hX hu dL_law_196 (nI_addE (nI_k 41 rfl) (nI_mulE (nI_k 3 rfl) rfl)) (ar_333 hn) (by first | assumption | omega) ?_
      refine zk_aload hX dL_law_197 rfl ?_
      refine zk_bipush (v := 42) hX dL_law_199 (by decide) ?_
      refine zk_iconst (v := 3) hX dL_law_201 (by decide) ?_
      refine zk_iload hX dL_law_202 rfl ?_
      refine zk_imul hX dL_law_204 ?_
      refine zk_iadd hX dL_law_205 ?_
      refine zk_aload_n hX dL_law_206 rfl ?_
      refine zk_bipush (v := 41) hX dL_law_207 (by decide) ?_
      refine zk_iconst (v := 3) hX dL_law_209 (by decide) ?_
      refine zk_iload hX dL_law_210 rfl ?_
      refine zk_imul hX dL_law_212 ?_
      refine zk_iadd hX dL_law_213 ?_
      refine zl_ialdE hX dL_law_214 (nI_addE (nI_k 41 rfl) (nI_mulE (nI_k 3 rfl) rfl)) (ar_332 hn) (by first | assumption | omega) ?_
      rw [zu3_k (by decide), e1]
      refine zl_iastE hX hu dL_law_215 (nI_addE (nI_k 42 rfl) (nI_mulE (nI_k 3 rfl) rfl)) (ar_333 hn) (by first | assumption | omega) ?_
      refine zk_iinc (lo' := [_, _, _, _, _, _, _, _, _, _, _, _, _, _, _, _, _, _, _, _]) hX dL_law_216 rfl (by exact zinc _) (Nat.le_of_ble_eq_true rfl) rfl rfl ?_
      refine zk_goto (tgt := 170) hX dL_law_219 (by decide) ?_
      refine ih (j + 1) _ (by omega) (zr_u (zr_u h0 (by decide)) (by decide)) ?_ ?_
      · rw [zu3_k (by decide), zu3_k (by decide)]
        exact h1
      · rw [zu3_f, zu3_f]
        exact aH_jnt hD h2 (by omega)
  have l4 : ∀ z j a1, j + z = dF D → zr a1 → aH (a1 332) D → aH (a1 333) (pm D (dW D) j 0) → zk G X mL_law 336 336 sl 128 (lo9 ++ [.int (nI j), .null, .null, .null, .null, .null, .null, .null, .null, .null, .null, .null, .null]) [] (zcm Wd a1) := by
    intro z
    induction z with
    | zero =>
      intro j a1 hj h0 h1 h2
      obtain rfl : j = dF D := by omega
      refine zk_iload hX dL_law_128 rfl ?_
      refine zk_aload_n hX dL_law_130 rfl ?_
      refine zk_iconst (v := 3) hX dL_law_131 (by decide) ?_
      refine zl_ialdE hX dL_law_132 (nI_k 3 rfl) (ar_332 hn) (by first | assumption | omega) ?_
      rw [h1.1.2.1]
      refine zk_icmp_ge (tgt := 167) hX dL_law_133 (by decide) (fun c133 => ?_) (fun c133 => ?_)
      rotate_left
      · exact absurd (nI_le (Nat.le_refl _) (by omega)) c133
      refine zk_iconst (v := 0) hX dL_law_167 (by decide) ?_
      refine zk_istore (lo' := [_, _, _, _, _, _, _, _, _, _, _, _, _, _, _, _, _, _, _, _]) hX dL_law_168 (Nat.le_of_ble_eq_true rfl) rfl rfl ?_
      exact l5 (dJ D) 0 a1 (by omega) h0 h1 h2
    | succ z ih =>
      intro j a1 hj h0 h1 h2
      obtain ⟨-, e1, -⟩ := h1.2.2.1 j (by omega)
      have hs := (hD.2.2.1 j (by omega)).2.1
      have ev : (8 - nI (dS D j)) - (8 - nI (dS D j)) / 8 * 8 = nI ((8 - dS D j) % 8) := by
        rw [show 8 - nI (dS D j) = nI (8 - dS D j) from nI_subE (by omega) rfl rfl]
        exact nI_rem (b := 8) (by omega) (by decide)
      refine zk_iload hX dL_law_128 rfl ?_
      refine zk_aload_n hX dL_law_130 rfl ?_
      refine zk_iconst (v := 3) hX dL_law_131 (by decide) ?_
      refine zl_ialdE hX dL_law_132 (nI_k 3 rfl) (ar_332 hn) (by first | assumption | omega) ?_
      rw [h1.1.2.1]
      refine zk_icmp_ge (tgt := 167) hX dL_law_133 (by decide) (fun c133 => ?_) (fun c133 => ?_)
      · exact absurd c133 (nI_ge (by omega) (by omega))
      refine zk_aload hX dL_law_136 rfl ?_
      refine zk_bipush (v := 9) hX dL_law_138 (by decide) ?_
      refine zk_iconst (v := 4) hX dL_law_140 (by decide) ?_
      refine zk_iload hX dL_law_141 rfl ?_
      refine zk_imul hX dL_law_143 ?_
      refine zk_iadd hX dL_law_144 ?_
      refine zk_bipush (v := 8) hX dL_law_145 (by decide) ?_
      refine zk_aload_n hX dL_law_147 rfl ?_
      refine zk_bipush (v := 9) hX dL_law_148 (by decide) ?_
      refine zk_iconst (v := 4) hX dL_law_150 (by decide) ?_
      refine zk_iload hX dL_law_151 rfl ?_
      refine zk_imul hX dL_law_153 ?_
      refine zk_iadd hX dL_law_154 ?_
      refine zl_ialdE hX dL_law_155 (nI_addE (nI_k 9 rfl) (nI_mulE (nI_k 4 rfl) rfl)) (ar_332 hn) (by first | assumption | omega) ?_
      rw [e1]
      refine zk_isub hX dL_law_156 ?_
      refine zk_bipush (v := 8) hX dL_law_157 (by decide) ?_
      refine zk_irem hX dL_law_159 (by decide) ?_
      rw [ev]
      refine zl_iastE hX hu dL_law_160 (nI_addE (nI_k 9 rfl) (nI_mulE (nI_k 4 rfl) rfl)) (ar_333 hn) (by first | assumption | omega) ?_
      refine zk_iinc (lo' := [_, _, _, _, _, _, _, _, _, _, _, _, _, _, _, _, _, _, _, _]) hX dL_law_161 rfl (by exact zinc _) (Nat.le_of_ble_eq_true rfl) rfl rfl ?_
      refine zk_goto (tgt := 128) hX dL_law_164 (by decide) ?_
      refine ih (j + 1) _ (by omega) (zr_u h0 (by decide)) ?_ ?_
      · rw [zu3_k (by decide)]
        exact h1
      · rw [zu3_f]
        exact aH_fing hD h2 (by omega)
  have l3 : ∀ z j a1, j + z = dW D → zr a1 → aH (a1 332) D → aH (a1 333) (pm D j 0 0) → zk G X mL_law 336 336 sl 75 (lo9 ++ [.int (nI j), .null, .null, .null, .null, .null, .null, .null, .null, .null, .null, .null, .null]) [] (zcm Wd a1) := by
    intro z
    induction z with
    | zero =>
      intro j a1 hj h0 h1 h2
      obtain rfl : j = dW D := by omega
      refine zk_iload hX dL_law_75 rfl ?_
      refine zk_aload_n hX dL_law_77 rfl ?_
      refine zk_iconst (v := 0) hX dL_law_78 (by decide) ?_
      refine zl_ialdE hX dL_law_79 (nI_k 0 rfl) (ar_332 hn) (by first | assumption | omega) ?_
      rw [h1.1.1]
      refine zk_icmp_ge (tgt := 125) hX dL_law_80 (by decide) (fun c80 => ?_) (fun c80 => ?_)
      rotate_left
      · exact absurd (nI_le (Nat.le_refl _) (by omega)) c80
      refine zk_iconst (v := 0) hX dL_law_125 (by decide) ?_
      refine zk_istore (lo' := [_, _, _, _, _, _, _, _, _, _, _, _, _, _, _, _, _, _, _, _]) hX dL_law_126 (Nat.le_of_ble_eq_true rfl) rfl rfl ?_
      exact l4 (dF D) 0 a1 (by omega) h0 h1 h2
    | succ z ih =>
      intro j a1 hj h0 h1 h2
      have e1 := h1.2.1 j (by omega)
      have hs := hD.2.1 j (by omega)
      have er : nI (dw D j) - nI (dw D j) / 12 * 12 = nI (dw D j % 12) := nI_rem (b := 12) (by omega) (by decide)
      have ev : nI (dw D j) - nI (dw D j % 12) + 11 - nI (dw D j % 12) = nI (12 * (dw D j / 12) + (11 - dw D j % 12)) := by
        rw [nI_subE (a := dw D j) (b := dw D j % 12) (Nat.mod_le _ _) rfl rfl, show (11 : Int32) = nI 11 from rfl, nI_add, nI_subE (a := dw D j - dw D j % 12 + 11) (b := dw D j % 12) (by omega) rfl rfl]
        exact congrArg nI (by omega)
      refine zk_iload hX dL_law_75 rfl ?_
      refine zk_aload_n hX dL_law_77 rfl ?_
      refine zk_iconst (v := 0) hX dL_law_78 (by decide) ?_
      refine zl_ialdE hX dL_law_79 (nI_k 0 rfl) (ar_332 hn) (by first | assumption | omega) ?_
      rw [h1.1.1]
      refine zk_icmp_ge (tgt := 125) hX dL_law_80 (by decide) (fun c80 => ?_) (fun c80 => ?_)
      · exact absurd c80 (nI_ge (by omega) (by omega))
      refine zk_aload hX dL_law_83 rfl ?_
      refine zk_iconst (v := 1) hX dL_law_85 (by decide) ?_
      refine zk_iload hX dL_law_86 rfl ?_
      refine zk_iadd hX dL_law_88 ?_
      refine zk_aload_n hX dL_law_89 rfl ?_
      refine zk_iconst (v := 1) hX dL_law_90 (by decide) ?_
      refine zk_iload hX dL_law_91 rfl ?_
      refine zk_iadd hX dL_law_93 ?_
      refine zl_ialdE hX dL_law_94 (nI_addE (nI_k 1 rfl) rfl) (ar_332 hn) (by first | assumption | omega) ?_
      rw [e1]
      refine zk_aload_n hX dL_law_95 rfl ?_
      refine zk_iconst (v := 1) hX dL_law_96 (by decide) ?_
      refine zk_iload hX dL_law_97 rfl ?_
      refine zk_iadd hX dL_law_99 ?_
      refine zl_ialdE hX dL_law_100 (nI_addE (nI_k 1 rfl) rfl) (ar_332 hn) (by first | assumption | omega) ?_
      rw [e1]
      refine zk_bipush (v := 12) hX dL_law_101 (by decide) ?_
      refine zk_irem hX dL_law_103 (by decide) ?_
      rw [er]
      refine zk_isub hX dL_law_104 ?_
      refine zk_bipush (v := 11) hX dL_law_105 (by decide) ?_
      refine zk_iadd hX dL_law_107 ?_
      refine zk_aload_n hX dL_law_108 rfl ?_
      refine zk_iconst (v := 1) hX dL_law_109 (by decide) ?_
      refine zk_iload hX dL_law_110 rfl ?_
      refine zk_iadd hX dL_law_112 ?_
      refine zl_ialdE hX dL_law_113 (nI_addE (nI_k 1 rfl) rfl) (ar_332 hn) (by first | assumption | omega) ?_
      rw [e1]
      refine zk_bipush (v := 12) hX dL_law_114 (by decide) ?_
      refine zk_irem hX dL_law_116 (by decide) ?_
      rw [er]
      refine zk_isub hX dL_law_117 ?_
      rw [ev]
      refine zl_iastE hX hu dL_law_118 (nI_addE (nI_k 1 rfl) rfl) (ar_333 hn) (by first | assumption | omega) ?_
      refine zk_iinc (lo' := [_, _, _, _, _, _, _, _, _, _, _, _, _, _, _, _, _, _, _, _]) hX dL_law_119 rfl (by exact zinc _) (Nat.le_of_ble_eq_true rfl) rfl rfl ?_
      refine zk_goto (tgt := 75) hX dL_law_122 (by decide) ?_
      refine ih (j + 1) _ (by omega) (zr_u h0 (by decide)) ?_ ?_
      · rw [zu3_k (by decide)]
        exact h1
      · rw [zu3_f]
        exact aH_hand hD h2 (by omega)
  have l2 : ∀ z j a1, j + z = 64 → zr a1 → aH (a1 332) D → (∀ i, i < j → a1 333 i = a1 332 i) → zk G X mL_law 336 336 sl 50 (lo9 ++ [.int (nI j), .null, .null, .null, .null, .null, .null, .null, .null, .null, .null, .null, .null]) [] (zcm Wd a1) := by
    intro z
    induction z with
    | zero =>
      intro j a1 hj h0 h1 h2
      obtain rfl : j = 64 := by omega
      refine zk_iload hX dL_law_50 rfl ?_
      refine zk_bipush (v := 64) hX dL_law_52 (by decide) ?_
      refine zk_icmp_ge (tgt := 72) hX dL_law_54 (by decide) (fun c54 => ?_) (fun c54 => ?_)
      rotate_left
      · exact absurd (by decide) c54
      refine zk_iconst (v := 0) hX dL_law_72 (by decide) ?_
      refine zk_istore (lo' := [_, _, _, _, _, _, _, _, _, _, _, _, _, _, _, _, _, _, _, _]) hX dL_law_73 (Nat.le_of_ble_eq_true rfl) rfl rfl ?_
      exact l3 (dW D) 0 a1 (by omega) h0 h1 (aH_g hD h1 h2)
    | succ z ih =>
      intro j a1 hj h0 h1 h2
      refine zk_iload hX dL_law_50 rfl ?_
      refine zk_bipush (v := 64) hX dL_law_52 (by decide) ?_
      refine zk_icmp_ge (tgt := 72) hX dL_law_54 (by decide) (fun c54 => ?_) (fun c54 => ?_)
      · exact absurd c54 (nI_ge (b := 64) (by omega) (by decide))
      refine zk_aload hX dL_law_57 rfl ?_
      refine zk_iload hX dL_law_59 rfl ?_
      refine zk_aload_n hX dL_law_61 rfl ?_
      refine zk_iload hX dL_law_62 rfl ?_
      refine zl_ialdE hX dL_law_64 rfl (ar_332 hn) (by first | assumption | omega) ?_
      refine zl_iastE hX hu dL_law_65 rfl (ar_333 hn) (by first | assumption | omega) ?_
      refine zk_iinc (lo' := [_, _, _, _, _, _, _, _, _, _, _, _, _, _, _, _, _, _, _, _]) hX dL_law_66 rfl (by exact zinc _) (Nat.le_of_ble_eq_true rfl) rfl rfl ?_
      refine zk_goto (tgt := 50) hX dL_law_69 (by decide) ?_
      refine ih (j + 1) _ (by omega) (zr_u h0 (by decide)) ?_ (fun i hi => ?_)
      · rw [zu3_k (by decide)]
        exact h1
      · rw [zu3_k (c := 332) (by decide)]
        by_cases e : i = j
        · subst e
          exact zu3_s
        · rw [zu3_n e]
          exact h2 i (by omega)
  intro a3 h0 h1
  refine zk_iconst (v := 0) hX dL_law_47 (by decide) ?_
  refine zk_istore (lo' := [_, _, _, _, _, _, _, _, _, _, _, _, _, _, _, _, _, _, _, _]) hX dL_law_48 (Nat.le_of_ble_eq_true rfl) rfl rfl ?_
  exact l2 64 0 a3 (by omega) h0 h1 (fun i hi => absurd hi (Nat.not_lt_zero _))
end LAW
