def iQ (a3 : zA3) (k W i : Nat) (D : zD) (a1 : zA3) : Prop := (∀ q, q ≠ k → a1 q = a3 q) ∧ a1 k 0 = nI W ∧ gM D ∧ dW D = i
def iJ (a3 : zA3) (k W i F L1 : Nat) (D : zD) (a1 : zA3) (q : Nat) : Prop := iQ a3 k W (i + 1) D a1 ∧ dF D = F + 1 ∧ dL D F = q ∧ dJ D + (L1 - q) ≤ 3 ∧ aX (a1 k) D F L1
theorem vbnd {a b i : Nat} (ha : a < 6) (hb : b < 5) (hi : i < 2) : (24 ≤ 12 * (2 + a) + 1 + 5 * i + b ∧ 12 * (2 + a) + 1 + 5 * i + b < 96) ∧ 1 ≤ (12 * (2 + a) + 1 + 5 * i + b) % 12 ∧ (12 * (2 + a) + 1 + 5 * i + b) % 12 ≤ 10 := by
  have e : (12 * (2 + a) + 1 + 5 * i + b) % 12 = 1 + 5 * i + b := by
    rw [show 12 * (2 + a) + 1 + 5 * i + b = 12 * (2 + a) + (1 + 5 * i + b) by omega, Nat.mul_add_mod, Nat.mod_eq_of_lt (by omega)]
  rw [e]
  exact ⟨⟨by omega, by omega⟩, by omega, by omega⟩
section ZH
variable {G : zG} {n : Nat} {Wd : Bool → zW} {a3 : zA3}
theorem s_L_numbers {k : Nat} (hn : zLn n) (hk : zAr n k 64) : zDv G n mL_numbers [.float 0, .int (nI 10), .int (nI 3), .ref k] Wd a3 (fun Wd1 a1 => Wd1 = Wd ∧ (∀ q, q ≠ k → a1 q = a3 q) ∧ ∃ D c, gD D c ∧ aH (a1 k) D) := by
  have hu := zLn_u hn
  refine zC_of (lo := [_, _, _, _, _, _, _, _, _, _, _, _]) kcL_numbers (Nat.le_of_ble_eq_true rfl) rfl (fun X hX hE => ?_)
  have jl : ∀ (W i F L1 : Nat) (v5 v6 v7 v8 : Value), i < 2 → F ≤ 3 → L1 ≤ 2 → (∀ D a1 v10 v11, iJ a3 k W i F L1 D a1 L1 → zk G X mL_numbers n 0 0 287 [.float 0, .int (nI 10), .int (nI 3), .ref k, .int (nI i), v5, v6, v7, v8, .int (nI (8 + 4 * F)), v10, v11] [] (zcm Wd a1)) →
      ∀ z q D a1 v11, q + z = L1 → iJ a3 k W i F L1 D a1 q → zk G X mL_numbers n 0 0 198 [.float 0, .int (nI 10), .int (nI 3), .ref k, .int (nI i), v5, v6, v7, v8, .int (nI (8 + 4 * F)), .int (nI q), v11] [] (zcm Wd a1) := by
    intro W i F L1 v5 v6 v7 v8 hi hF hL K z
    induction z with
    | zero =>
      intro q D a1 v11 hq hI
      obtain rfl : q = L1 := by omega
      have e11 : a1 k (8 + 4 * F + 3) = nI q := by
        have := (hI.2.2.2.2.2.2.1 F (by rw [hI.2.1]; omega)).2.2.2
        rw [if_pos hI.2.1.symm] at this
        rw [← this]
        congr 1
        omega
      refine zk_iload hX dL_numbers_198 rfl ?_
      refine zk_aload_n hX dL_numbers_200 rfl ?_
      refine zk_iload hX dL_numbers_201 rfl ?_
      refine zk_iconst (v := 3) hX dL_numbers_203 (by decide) ?_
      refine zk_iadd hX dL_numbers_204 ?_
      refine zl_ialdE hX dL_numbers_205 (nI_addE rfl (nI_k 3 rfl)) hk (by first | assumption | omega) ?_
      rw [e11]
      refine zk_icmp_ge (tgt := 287) hX dL_numbers_206 (by decide) (fun c206 => ?_) (fun c206 => ?_)
      rotate_left
      · exact absurd (nI_le (Nat.le_refl _) (by omega)) c206
      exact K _ _ _ _ hI
    | succ z ih =>
      intro q D a1 v11 hq hI
      have e11 : a1 k (8 + 4 * F + 3) = nI L1 := by
        have := (hI.2.2.2.2.2.2.1 F (by rw [hI.2.1]; omega)).2.2.2
        rw [if_pos hI.2.1.symm] at this
        rw [← this]
        congr 1
        omega
      obtain ⟨⟨j1, j2, j3, j4⟩, j5, j6, j7, j8⟩ := hI
      have e3 : a1 k 3 = nI F := j8.1.1
      have e4 : a1 k 4 = nI (dJ D) := j8.1.2
      have hW2 : dW D ≤ 2 := by omega
      refine zk_iload hX dL_numbers_198 rfl ?_
      refine zk_aload_n hX dL_numbers_200 rfl ?_
      refine zk_iload hX dL_numbers_201 rfl ?_
      refine zk_iconst (v := 3) hX dL_numbers_203 (by decide) ?_
      refine zk_iadd hX dL_numbers_204 ?_
      refine zl_ialdE hX dL_numbers_205 (nI_addE rfl (nI_k 3 rfl)) hk (by first | assumption | omega) ?_
      rw [e11]
      refine zk_icmp_ge (tgt := 287) hX dL_numbers_206 (by decide) (fun c206 => ?_) (fun c206 => ?_)
      · exact absurd c206 (nI_ge (by omega) (by omega))
      refine zk_fload_n hX dL_numbers_209 rfl ?_
      refine zk_iload_n hX dL_numbers_210 rfl ?_
      refine zk_bipush (v := 10) hX dL_numbers_211 (by decide) ?_
      refine zk_iadd hX dL_numbers_213 ?_
      refine zk_aload_n hX dL_numbers_214 rfl ?_
      refine zk_iconst (v := 4) hX dL_numbers_215 (by decide) ?_
      refine zl_ialdE hX dL_numbers_216 (nI_k 4 rfl) hk (by first | assumption | omega) ?_
      rw [e4]
      refine zk_iadd hX dL_numbers_217 ?_
      rw [show nI 10 + 10 + nI (dJ D) = nI (10 + 10 + dJ D) from nI_addE (nI_addE rfl rfl) rfl]
      refine zl_callS (M' := mL_cell) (As := [_, _]) hX dL_numbers_218 kcL_cell mlL_19 smL_cell rfl (s_L_cell (by omega)) rfl rfl (Nat.le_of_ble_eq_true rfl) rfl ⟨Nat.le_of_ble_eq_true rfl, Nat.le_of_ble_eq_true rfl⟩ (fun r Wd1 a2 p => ?_)
      obtain ⟨⟨rfl, rfl⟩, m, hm, rfl⟩ := p
      have em3 : nI m - nI m / 3 * 3 = nI (m % 3) := nI_rem (b := 3) (by omega) (by decide)
      have em4 : nI m / 4 = nI (m / 4) := nI_div (b := 4) (by omega) (by decide)
      have em8 : nI m / 8 = nI (m / 8) := nI_div (b := 8) (by omega) (by decide)
      have em42 : nI (m / 4) - nI (m / 4) / 2 * 2 = nI (m / 4 % 2) := nI_rem (b := 2) (by omega) (by decide)
      have em82 : nI (m / 8) - nI (m / 8) / 2 * 2 = nI (m / 8 % 2) := nI_rem (b := 2) (by omega) (by decide)
      refine zk_istore (lo' := [_, _, _, _, _, _, _, _, _, _, _, _]) hX dL_numbers_221 (Nat.le_of_ble_eq_true rfl) rfl rfl ?_
      refine zk_aload_n hX dL_numbers_223 rfl ?_
      refine zk_bipush (v := 40) hX dL_numbers_224 (by decide) ?_
      refine zk_iconst (v := 3) hX dL_numbers_226 (by decide) ?_
      refine zk_aload_n hX dL_numbers_227 rfl ?_
      refine zk_iconst (v := 4) hX dL_numbers_228 (by decide) ?_
      refine zl_ialdE hX dL_numbers_229 (nI_k 4 rfl) hk (by first | assumption | omega) ?_
      rw [e4]
      refine zk_imul hX dL_numbers_230 ?_
      refine zk_iadd hX dL_numbers_231 ?_
      refine zk_aload_n hX dL_numbers_232 rfl ?_
      refine zk_iconst (v := 3) hX dL_numbers_233 (by decide) ?_
      refine zl_ialdE hX dL_numbers_234 (nI_k 3 rfl) hk (by first | assumption | omega) ?_
      rw [e3]
      refine zl_iastE hX hu dL_numbers_235 (nI_addE (nI_k 40 rfl) (nI_mulE (nI_k 3 rfl) rfl)) hk (by first | assumption | omega) ?_
      refine zk_aload_n hX dL_numbers_236 rfl ?_
      refine zk_bipush (v := 41) hX dL_numbers_237 (by decide) ?_
      refine zk_iconst (v := 3) hX dL_numbers_239 (by decide) ?_
      refine zk_aload_n hX dL_numbers_240 rfl ?_
      refine zk_iconst (v := 4) hX dL_numbers_241 (by decide) ?_
      refine zl_ialdE hX dL_numbers_242 (nI_k 4 rfl) hk (by first | assumption | omega) ?_
      rw [zu3_n (by omega), e4]
      refine zk_imul hX dL_numbers_243 ?_
      refine zk_iadd hX dL_numbers_244 ?_
      refine zk_iload hX dL_numbers_245 rfl ?_
      refine zk_iconst (v := 3) hX dL_numbers_247 (by decide) ?_
      refine zk_irem hX dL_numbers_248 (by decide) ?_
      rw [em3]
      refine zl_iastE hX hu dL_numbers_249 (nI_addE (nI_k 41 rfl) (nI_mulE (nI_k 3 rfl) rfl)) hk (by first | assumption | omega) ?_
      refine zk_aload_n hX dL_numbers_250 rfl ?_
      refine zk_bipush (v := 42) hX dL_numbers_251 (by decide) ?_
      refine zk_iconst (v := 3) hX dL_numbers_253 (by decide) ?_
      refine zk_aload_n hX dL_numbers_254 rfl ?_
      refine zk_iconst (v := 4) hX dL_numbers_255 (by decide) ?_
      refine zl_ialdE hX dL_numbers_256 (nI_k 4 rfl) hk (by first | assumption | omega) ?_
      rw [zu3_n (by omega), zu3_n (by omega), e4]
      refine zk_imul hX dL_numbers_257 ?_
      refine zk_iadd hX dL_numbers_258 ?_
      refine zk_iload hX dL_numbers_259 rfl ?_
      refine zk_iconst (v := 4) hX dL_numbers_261 (by decide) ?_
      refine zk_idiv hX dL_numbers_262 (by decide) ?_
      refine zk_iconst (v := 2) hX dL_numbers_263 (by decide) ?_
      refine zk_irem hX dL_numbers_264 (by decide) ?_
      refine zk_iload hX dL_numbers_265 rfl ?_
      refine zk_bipush (v := 8) hX dL_numbers_267 (by decide) ?_
      refine zk_idiv hX dL_numbers_269 (by decide) ?_
      refine zk_iconst (v := 2) hX dL_numbers_270 (by decide) ?_
      refine zk_irem hX dL_numbers_271 (by decide) ?_
      refine zk_iadd hX dL_numbers_272 ?_
      rw [em4, em8, em42, em82, show nI (m / 4 % 2) + nI (m / 8 % 2) = nI (m / 4 % 2 + m / 8 % 2) from nI_addE rfl rfl]
      refine zl_iastE hX hu dL_numbers_273 (nI_addE (nI_k 42 rfl) (nI_mulE (nI_k 3 rfl) rfl)) hk (by first | assumption | omega) ?_
      refine zk_aload_n hX dL_numbers_274 rfl ?_
      refine zk_iconst (v := 4) hX dL_numbers_275 (by decide) ?_
      refine zk_dup2 hX dL_numbers_276 rfl rfl ?_
      refine zl_ialdE hX dL_numbers_277 (nI_k 4 rfl) hk (by first | assumption | omega) ?_
      rw [zu3_n (by omega), zu3_n (by omega), zu3_n (by omega), e4]
      refine zk_iconst (v := 1) hX dL_numbers_278 (by decide) ?_
      refine zk_iadd hX dL_numbers_279 ?_
      rw [show nI (dJ D) + 1 = nI (dJ D + 1) from nI_addE rfl rfl]
      refine zl_iastE hX hu dL_numbers_280 (nI_k 4 rfl) hk (by first | assumption | omega) ?_
      refine zk_iinc (lo' := [_, _, _, _, _, _, _, _, _, _, _, _]) hX dL_numbers_281 rfl (by exact zinc _) (Nat.le_of_ble_eq_true rfl) rfl rfl ?_
      refine zk_goto (tgt := 198) hX dL_numbers_284 (by decide) ?_
      refine ih (q + 1) (dJnt D (m % 3) (m / 4 % 2 + m / 8 % 2)) _ _ (by omega) ⟨⟨fun c hc => ?_, ?_, gM_jnt j3 (by omega) (by omega) (by rw [j5, Nat.add_sub_cancel, j6]; omega) (by omega) (by omega), j4⟩, j5, ?_, ?_, ?_⟩
      · rw [zu3_k hc, zu3_k hc, zu3_k hc, zu3_k hc]
        exact j1 c hc
      · rw [zu3_n (by decide), zu3_n (by omega), zu3_n (by omega), zu3_n (by omega)]
        exact j2
      · show nup (dL D) (dF D - 1) (dL D (dF D - 1) + 1) F = q + 1
        rw [j5, Nat.add_sub_cancel, nup_s, j6]
      · show dJ D + 1 + (L1 - (q + 1)) ≤ 3
        omega
      · have h9 := aX_jnt (b := m % 3) (t := m / 4 % 2 + m / 8 % 2) (f := a2 k) (D := D) (n := L1) (by rw [j5]; exact j8) (by omega) hW2
        rw [j5, Nat.add_sub_cancel] at h9
        rw [zu3_f, zu3_f, zu3_f, zu3_f]
        exact h9
  have fl : ∀ (W i N : Nat) (v5 : Value), i < 2 → N ≤ 2 → (∀ D a1 v7 v8 v9 v10 v11, iQ a3 k W (i + 1) D a1 → dF D ≤ 2 * i + N → aX (a1 k) D (dF D) (dL D (dF D - 1)) → zk G X mL_numbers n 0 0 300 [.float 0, .int (nI 10), .int (nI 3), .ref k, .int (nI i), v5, .int (nI N), v7, v8, v9, v10, v11] [] (zcm Wd a1)) →
      ∀ z q D a1 v8 v9 v10 v11, q + z = N → iQ a3 k W (i + 1) D a1 → dF D ≤ 2 * i + q → aX (a1 k) D (dF D) (dL D (dF D - 1)) → zk G X mL_numbers n 0 0 88 [.float 0, .int (nI 10), .int (nI 3), .ref k, .int (nI i), v5, .int (nI N), .int (nI q), v8, v9, v10, v11] [] (zcm Wd a1) := by
    intro W i N v5 hi hN K z
    induction z with
    | zero =>
      intro q D a1 v8 v9 v10 v11 hq hI hF hA
      obtain rfl : q = N := by omega
      refine zk_iload hX dL_numbers_88 rfl ?_
      refine zk_iload hX dL_numbers_90 rfl ?_
      refine zk_icmp_ge (tgt := 300) hX dL_numbers_92 (by decide) (fun c92 => ?_) (fun c92 => ?_)
      rotate_left
      · exact absurd (nI_le (Nat.le_refl _) (by omega)) c92
      exact K _ _ _ _ _ _ _ hI hF hA
    | succ z ih =>
      intro q D a1 v8 v9 v10 v11 hq hI hF hA
      obtain ⟨j1, j2, j3, j4⟩ := hI
      have e3 : a1 k 3 = nI (dF D) := hA.1.1
      have e4 : a1 k 4 = nI (dJ D) := hA.1.2
      have hJ3 := j3.2.1
      have fin : ∀ (m L0 L1 : Nat) (v8 v10 v11 : Value), L1 ≤ 2 → dJ D + L1 ≤ 3 → zk G X mL_numbers n 0 0 198 [.float 0, .int (nI 10), .int (nI 3), .ref k, .int (nI i), v5, .int (nI N), .int (nI q), v8, .int (nI (8 + 4 * dF D)), .int (nI 0), v11] [] (zcm Wd (zu3 (zu3 (zu3 (zu3 (zu3 a1 k (8 + 4 * dF D) (nI i)) k (8 + 4 * dF D + 1) (nI (m % 8))) k (8 + 4 * dF D + 2) (nI (dJ D))) k (8 + 4 * dF D + 3) (nI L0)) k (8 + 4 * dF D + 3) (nI L1))) := by
        intro m L0 L1 v8 v10 v11 h1 h2
        refine jl W i (dF D) L1 v5 (.int (nI N)) (.int (nI q)) v8 hi (by omega) h1 (fun D2 a2 w10 w11 hJ => ?_) L1 0 (dFin D (m % 8)) _ _ (by omega) ⟨⟨fun c hc => ?_, ?_, gM_fin j3 (by omega) (by omega) (by omega), j4⟩, rfl, nup_s, by show dJ D + (L1 - 0) ≤ 3; omega, ?_⟩
        · obtain ⟨⟨k1, k2, k3, k4⟩, k5, k6, k7, k8⟩ := hJ
          have f3 : a2 k 3 = nI (dF D) := k8.1.1
          have h0 := ih (q + 1) D2 (zu3 a2 k 3 (nI (dF D + 1))) v8 (.int (nI (8 + 4 * dF D))) w10 w11 (by omega) ⟨fun c hc => by rw [zu3_k hc]; exact k1 c hc, by rw [zu3_n (by decide)]; exact k2, k3, k4⟩ (by omega) (by
            rw [zu3_f, k5, Nat.add_sub_cancel, k6]
            exact aX_cnt k8 (by omega))
          refine zk_aload_n hX dL_numbers_287 rfl ?_
          refine zk_iconst (v := 3) hX dL_numbers_288 (by decide) ?_
          refine zk_dup2 hX dL_numbers_289 rfl rfl ?_
          refine zl_ialdE hX dL_numbers_290 (nI_k 3 rfl) hk (by first | assumption | omega) ?_
          rw [f3]
          refine zk_iconst (v := 1) hX dL_numbers_291 (by decide) ?_
          refine zk_iadd hX dL_numbers_292 ?_
          rw [show nI (dF D) + 1 = nI (dF D + 1) from nI_addE rfl rfl]
          refine zl_iastE hX hu dL_numbers_293 (nI_k 3 rfl) hk (by first | assumption | omega) ?_
          refine zk_iinc (lo' := [_, _, _, _, _, _, _, _, _, _, _, _]) hX dL_numbers_294 rfl (by exact zinc _) (Nat.le_of_ble_eq_true rfl) rfl rfl ?_
          refine zk_goto (tgt := 88) hX dL_numbers_297 (by decide) ?_
          exact h0
        · rw [zu3_k hc, zu3_k hc, zu3_k hc, zu3_k hc, zu3_k hc]
          exact j1 c hc
        · rw [zu3_n (by omega), zu3_n (by omega), zu3_n (by omega), zu3_n (by omega), zu3_n (by omega)]
          exact j2
        · have h9 := aX_fin (s := m % 8) (L0 := L0) (L1 := L1) hA (by omega) (by omega)
          rw [j4, Nat.add_sub_cancel] at h9
          rw [zu3_f, zu3_f, zu3_f, zu3_f, zu3_f]
          exact h9
      refine zk_iload hX dL_numbers_88 rfl ?_
      refine zk_iload hX dL_numbers_90 rfl ?_
      refine zk_icmp_ge (tgt := 300) hX dL_numbers_92 (by decide) (fun c92 => ?_) (fun c92 => ?_)
      · exact absurd c92 (nI_ge (by omega) (by omega))
      refine zk_fload_n hX dL_numbers_95 rfl ?_
      refine zk_iload_n hX dL_numbers_96 rfl ?_
      refine zk_iconst (v := 4) hX dL_numbers_97 (by decide) ?_
      refine zk_iadd hX dL_numbers_98 ?_
      refine zk_iconst (v := 2) hX dL_numbers_99 (by decide) ?_
      refine zk_iload hX dL_numbers_100 rfl ?_
      refine zk_imul hX dL_numbers_102 ?_
      refine zk_iadd hX dL_numbers_103 ?_
      refine zk_iload hX dL_numbers_104 rfl ?_
      refine zk_iadd hX dL_numbers_106 ?_
      rw [show nI 10 + 4 + 2 * nI i + nI q = nI (10 + 4 + 2 * i + q) from nI_addE (nI_addE (nI_addE rfl rfl) (nI_mulE rfl rfl)) rfl]
      refine zl_callS (M' := mL_cell) (As := [_, _]) hX dL_numbers_107 kcL_cell mlL_19 smL_cell rfl (s_L_cell (by omega)) rfl rfl (Nat.le_of_ble_eq_true rfl) rfl ⟨Nat.le_of_ble_eq_true rfl, Nat.le_of_ble_eq_true rfl⟩ (fun r Wd1 a2 p => ?_)
      obtain ⟨⟨rfl, rfl⟩, m, hm, rfl⟩ := p
      have em8 : nI m - nI m / 8 * 8 = nI (m % 8) := nI_rem (b := 8) (by omega) (by decide)
      have ed8 : nI m / 8 = nI (m / 8) := nI_div (b := 8) (by omega) (by decide)
      have em3 : nI (m / 8) - nI (m / 8) / 3 * 3 = nI (m / 8 % 3) := nI_rem (b := 3) (by omega) (by decide)
      have hL0 : m / 8 % 3 ≤ 2 := by omega
      refine zk_istore (lo' := [_, _, _, _, _, _, _, _, _, _, _, _]) hX dL_numbers_110 (Nat.le_of_ble_eq_true rfl) rfl rfl ?_
      refine zk_bipush (v := 8) hX dL_numbers_112 (by decide) ?_
      refine zk_iconst (v := 4) hX dL_numbers_114 (by decide) ?_
      refine zk_aload_n hX dL_numbers_115 rfl ?_
      refine zk_iconst (v := 3) hX dL_numbers_116 (by decide) ?_
      refine zl_ialdE hX dL_numbers_117 (nI_k 3 rfl) hk (by first | assumption | omega) ?_
      rw [e3]
      refine zk_imul hX dL_numbers_118 ?_
      refine zk_iadd hX dL_numbers_119 ?_
      rw [show 8 + 4 * nI (dF D) = nI (8 + 4 * dF D) from nI_addE rfl (nI_mulE rfl rfl)]
      refine zk_istore (lo' := [_, _, _, _, _, _, _, _, _, _, _, _]) hX dL_numbers_120 (Nat.le_of_ble_eq_true rfl) rfl rfl ?_
      refine zk_aload_n hX dL_numbers_122 rfl ?_
      refine zk_iload hX dL_numbers_123 rfl ?_
      refine zk_iload hX dL_numbers_125 rfl ?_
      refine zl_iastE hX hu dL_numbers_127 rfl hk (by first | assumption | omega) ?_
      refine zk_aload_n hX dL_numbers_128 rfl ?_
      refine zk_iload hX dL_numbers_129 rfl ?_
      refine zk_iconst (v := 1) hX dL_numbers_131 (by decide) ?_
      refine zk_iadd hX dL_numbers_132 ?_
      refine zk_iload hX dL_numbers_133 rfl ?_
      refine zk_bipush (v := 8) hX dL_numbers_135 (by decide) ?_
      refine zk_irem hX dL_numbers_137 (by decide) ?_
      rw [em8]
      refine zl_iastE hX hu dL_numbers_138 (nI_addE rfl (nI_k 1 rfl)) hk (by first | assumption | omega) ?_
      refine zk_aload_n hX dL_numbers_139 rfl ?_
      refine zk_iload hX dL_numbers_140 rfl ?_
      refine zk_iconst (v := 2) hX dL_numbers_142 (by decide) ?_
      refine zk_iadd hX dL_numbers_143 ?_
      refine zk_aload_n hX dL_numbers_144 rfl ?_
      refine zk_iconst (v := 4) hX dL_numbers_145 (by decide) ?_
      refine zl_ialdE hX dL_numbers_146 (nI_k 4 rfl) hk (by first | assumption | omega) ?_
      rw [zu3_n (by omega), zu3_n (by omega), e4]
      refine zl_iastE hX hu dL_numbers_147 (nI_addE rfl (nI_k 2 rfl)) hk (by first | assumption | omega) ?_
      refine zk_aload_n hX dL_numbers_148 rfl ?_
      refine zk_iload hX dL_numbers_149 rfl ?_
      refine zk_iconst (v := 3) hX dL_numbers_151 (by decide) ?_
      refine zk_iadd hX dL_numbers_152 ?_
      refine zk_iload hX dL_numbers_153 rfl ?_
      refine zk_bipush (v := 8) hX dL_numbers_155 (by decide) ?_
      refine zk_idiv hX dL_numbers_157 (by decide) ?_
      refine zk_iconst (v := 3) hX dL_numbers_158 (by decide) ?_
      refine zk_irem hX dL_numbers_159 (by decide) ?_
      rw [ed8, em3]
      refine zl_iastE hX hu dL_numbers_160 (nI_addE rfl (nI_k 3 rfl)) hk (by first | assumption | omega) ?_
      refine zk_aload_n hX dL_numbers_161 rfl ?_
      refine zk_iload hX dL_numbers_162 rfl ?_
      refine zk_iconst (v := 3) hX dL_numbers_164 (by decide) ?_
      refine zk_iadd hX dL_numbers_165 ?_
      refine zk_aload_n hX dL_numbers_166 rfl ?_
      refine zk_iload hX dL_numbers_167 rfl ?_
      refine zk_iconst (v := 3) hX dL_numbers_169 (by decide) ?_
      refine zk_iadd hX dL_numbers_170 ?_
      refine zl_ialdE hX dL_numbers_171 (nI_addE rfl (nI_k 3 rfl)) hk (by first | assumption | omega) ?_
      rw [zu3_s]
      refine zk_aload_n hX dL_numbers_172 rfl ?_
      refine zk_iconst (v := 4) hX dL_numbers_173 (by decide) ?_
      refine zl_ialdE hX dL_numbers_174 (nI_k 4 rfl) hk (by first | assumption | omega) ?_
      rw [zu3_n (by omega), zu3_n (by omega), zu3_n (by omega), zu3_n (by omega), e4]
      refine zk_iadd hX dL_numbers_175 ?_
      refine zk_iload_n hX dL_numbers_176 rfl ?_
      refine zk_icmp_le (tgt := 188) hX dL_numbers_177 (by decide) (fun c177 => ?_) (fun c177 => ?_)
      · have c9 : m / 8 % 3 + dJ D ≤ 3 := by
          have z : nI (m / 8 % 3) + nI (dJ D) ≤ nI 3 := by first | exact c177 | exact Decidable.not_not.mp c177
          rw [nI_add] at z
          exact nI_leD z (by omega) (by decide)
        refine zk_aload_n hX dL_numbers_188 rfl ?_
        refine zk_iload hX dL_numbers_189 rfl ?_
        refine zk_iconst (v := 3) hX dL_numbers_191 (by decide) ?_
        refine zk_iadd hX dL_numbers_192 ?_
        refine zl_ialdE hX dL_numbers_193 (nI_addE rfl (nI_k 3 rfl)) hk (by first | assumption | omega) ?_
        first | rw [zu3_s] | skip
        refine zl_iastE hX hu dL_numbers_194 (nI_addE rfl (nI_k 3 rfl)) hk (by first | assumption | omega) ?_
        refine zk_iconst (v := 0) hX dL_numbers_195 (by decide) ?_
        refine zk_istore (lo' := [_, _, _, _, _, _, _, _, _, _, _, _]) hX dL_numbers_196 (Nat.le_of_ble_eq_true rfl) rfl rfl ?_
        first
          | exact fin m (m / 8 % 3) (m / 8 % 3) _ .null _ (by omega) (by omega)
          | exact fin m (m / 8 % 3) (3 - dJ D) _ .null _ (by omega) (by omega)
      · have c9 : ¬ m / 8 % 3 + dJ D ≤ 3 := fun z => c177 (by rw [nI_add]; exact nI_le z (by decide))
        refine zk_iload_n hX dL_numbers_180 rfl ?_
        refine zk_aload_n hX dL_numbers_181 rfl ?_
        refine zk_iconst (v := 4) hX dL_numbers_182 (by decide) ?_
        refine zl_ialdE hX dL_numbers_183 (nI_k 4 rfl) hk (by first | assumption | omega) ?_
        rw [zu3_n (by omega), zu3_n (by omega), zu3_n (by omega), zu3_n (by omega), e4]
        refine zk_isub hX dL_numbers_184 ?_
        rw [show nI 3 - nI (dJ D) = nI (3 - dJ D) from nI_subE (by omega) rfl rfl]
        refine zk_goto (tgt := 194) hX dL_numbers_185 (by decide) ?_
        first | rw [zu3_s] | skip
        refine zl_iastE hX hu dL_numbers_194 (nI_addE rfl (nI_k 3 rfl)) hk (by first | assumption | omega) ?_
        refine zk_iconst (v := 0) hX dL_numbers_195 (by decide) ?_
        refine zk_istore (lo' := [_, _, _, _, _, _, _, _, _, _, _, _]) hX dL_numbers_196 (Nat.le_of_ble_eq_true rfl) rfl rfl ?_
        first
          | exact fin m (m / 8 % 3) (m / 8 % 3) _ .null _ (by omega) (by omega)
          | exact fin m (m / 8 % 3) (3 - dJ D) _ .null _ (by omega) (by omega)
  have il : ∀ z W i D a1 v5 v6 v7 v8 v9 v10 v11, W ≤ 2 → 1 ≤ W → i + z = W → iQ a3 k W i D a1 → dF D ≤ 2 * i → aX (a1 k) D (dF D) (dL D (dF D - 1)) → zk G X mL_numbers n 0 0 23 [.float 0, .int (nI 10), .int (nI 3), .ref k, .int (nI i), v5, v6, v7, v8, v9, v10, v11] [] (zcm Wd a1) := by
    intro z
    induction z with
    | zero =>
      intro W i D a1 v5 v6 v7 v8 v9 v10 v11 hW hW1 hi hI hF hA
      obtain rfl : i = W := by omega
      obtain ⟨j1, j2, j3, j4⟩ := hI
      obtain ⟨c, hc⟩ := gM_D j3 (by omega) (by omega)
      refine zk_iload hX dL_numbers_23 rfl ?_
      refine zk_aload_n hX dL_numbers_25 rfl ?_
      refine zk_iconst (v := 0) hX dL_numbers_26 (by decide) ?_
      refine zl_ialdE hX dL_numbers_27 (nI_k 0 rfl) hk (by first | assumption | omega) ?_
      rw [j2]
      refine zk_icmp_ge (tgt := 306) hX dL_numbers_28 (by decide) (fun c28 => ?_) (fun c28 => ?_)
      rotate_left
      · exact absurd (nI_le (Nat.le_refl _) (by omega)) c28
      refine zk_vret hX hE rfl ⟨rfl, rfl⟩ dL_numbers_306 ⟨rfl, _, _, rfl, ?_⟩
      exact ⟨rfl, j1, D, c, hc, aX_end hA (by rw [j4]; exact j2)⟩
    | succ z ih =>
      intro W i D a1 v5 v6 v7 v8 v9 v10 v11 hW hW1 hi hI hF hA
      obtain ⟨j1, j2, j3, j4⟩ := hI
      have next : ∀ D2 a2, iQ a3 k W (i + 1) D2 a2 → dF D2 ≤ 2 * (i + 1) → aX (a2 k) D2 (dF D2) (dL D2 (dF D2 - 1)) → ∀ w5 w6 w7 w8 w9 w10 w11, zk G X mL_numbers n 0 0 300 [.float 0, .int (nI 10), .int (nI 3), .ref k, .int (nI i), w5, w6, w7, w8, w9, w10, w11] [] (zcm Wd a2) := by
        intro D2 a2 k1 k2 k3 w5 w6 w7 w8 w9 w10 w11
        have h0 := ih W (i + 1) D2 a2 w5 w6 w7 w8 w9 w10 w11 hW hW1 (by omega) k1 k2 k3
        refine zk_iinc (lo' := [_, _, _, _, _, _, _, _, _, _, _, _]) hX dL_numbers_300 rfl (by exact zinc _) (Nat.le_of_ble_eq_true rfl) rfl rfl ?_
        refine zk_goto (tgt := 23) hX dL_numbers_303 (by decide) ?_
        exact h0
      refine zk_iload hX dL_numbers_23 rfl ?_
      refine zk_aload_n hX dL_numbers_25 rfl ?_
      refine zk_iconst (v := 0) hX dL_numbers_26 (by decide) ?_
      refine zl_ialdE hX dL_numbers_27 (nI_k 0 rfl) hk (by first | assumption | omega) ?_
      rw [j2]
      refine zk_icmp_ge (tgt := 306) hX dL_numbers_28 (by decide) (fun c28 => ?_) (fun c28 => ?_)
      · exact absurd c28 (nI_ge (by omega) (by omega))
      refine zk_fload_n hX dL_numbers_31 rfl ?_
      refine zk_iload_n hX dL_numbers_32 rfl ?_
      refine zk_iconst (v := 1) hX dL_numbers_33 (by decide) ?_
      refine zk_iadd hX dL_numbers_34 ?_
      refine zk_iload hX dL_numbers_35 rfl ?_
      refine zk_iadd hX dL_numbers_37 ?_
      rw [show nI 10 + 1 + nI i = nI (10 + 1 + i) from nI_addE (nI_addE rfl rfl) rfl]
      refine zl_callS (M' := mL_cell) (As := [_, _]) hX dL_numbers_38 kcL_cell mlL_19 smL_cell rfl (s_L_cell (by omega)) rfl rfl (Nat.le_of_ble_eq_true rfl) rfl ⟨Nat.le_of_ble_eq_true rfl, Nat.le_of_ble_eq_true rfl⟩ (fun r Wd1 a2 p => ?_)
      obtain ⟨⟨rfl, rfl⟩, m, hm, rfl⟩ := p
      have em6 : nI m - nI m / 6 * 6 = nI (m % 6) := nI_rem (b := 6) (by omega) (by decide)
      have ed8 : nI m / 8 = nI (m / 8) := nI_div (b := 8) (by omega) (by decide)
      have em5 : nI (m / 8) - nI (m / 8) / 5 * 5 = nI (m / 8 % 5) := nI_rem (b := 5) (by omega) (by decide)
      have ed64 : nI m / 64 = nI (m / 64) := nI_div (b := 64) (by omega) (by decide)
      have em2 : nI (m / 64) - nI (m / 64) / 2 * 2 = nI (m / 64 % 2) := nI_rem (b := 2) (by omega) (by decide)
      refine zk_istore (lo' := [_, _, _, _, _, _, _, _, _, _, _, _]) hX dL_numbers_41 (Nat.le_of_ble_eq_true rfl) rfl rfl ?_
      refine zk_aload_n hX dL_numbers_43 rfl ?_
      refine zk_iconst (v := 1) hX dL_numbers_44 (by decide) ?_
      refine zk_iload hX dL_numbers_45 rfl ?_
      refine zk_iadd hX dL_numbers_47 ?_
      refine zk_bipush (v := 12) hX dL_numbers_48 (by decide) ?_
      refine zk_iconst (v := 2) hX dL_numbers_50 (by decide) ?_
      refine zk_iload hX dL_numbers_51 rfl ?_
      refine zk_bipush (v := 6) hX dL_numbers_53 (by decide) ?_
      refine zk_irem hX dL_numbers_55 (by decide) ?_
      refine zk_iadd hX dL_numbers_56 ?_
      refine zk_imul hX dL_numbers_57 ?_
      refine zk_iconst (v := 1) hX dL_numbers_58 (by decide) ?_
      refine zk_iadd hX dL_numbers_59 ?_
      refine zk_iconst (v := 5) hX dL_numbers_60 (by decide) ?_
      refine zk_iload hX dL_numbers_61 rfl ?_
      refine zk_imul hX dL_numbers_63 ?_
      refine zk_iadd hX dL_numbers_64 ?_
      refine zk_iload hX dL_numbers_65 rfl ?_
      refine zk_bipush (v := 8) hX dL_numbers_67 (by decide) ?_
      refine zk_idiv hX dL_numbers_69 (by decide) ?_
      refine zk_iconst (v := 5) hX dL_numbers_70 (by decide) ?_
      refine zk_irem hX dL_numbers_71 (by decide) ?_
      refine zk_iadd hX dL_numbers_72 ?_
      rw [em6, ed8, em5, show 12 * (2 + nI (m % 6)) + 1 + 5 * nI i + nI (m / 8 % 5) = nI (12 * (2 + m % 6) + 1 + 5 * i + m / 8 % 5) from nI_addE (nI_addE (nI_addE (nI_mulE rfl (nI_addE rfl rfl)) rfl) (nI_mulE rfl rfl)) rfl]
      refine zl_iastE hX hu dL_numbers_73 (nI_addE (nI_k 1 rfl) rfl) hk (by first | assumption | omega) ?_
      refine zk_iconst (v := 1) hX dL_numbers_74 (by decide) ?_
      refine zk_iload hX dL_numbers_75 rfl ?_
      refine zk_bipush (v := 64) hX dL_numbers_77 (by decide) ?_
      refine zk_idiv hX dL_numbers_79 (by decide) ?_
      refine zk_iconst (v := 2) hX dL_numbers_80 (by decide) ?_
      refine zk_irem hX dL_numbers_81 (by decide) ?_
      refine zk_iadd hX dL_numbers_82 ?_
      rw [ed64, em2, show 1 + nI (m / 64 % 2) = nI (1 + m / 64 % 2) from nI_addE rfl rfl]
      refine zk_istore (lo' := [_, _, _, _, _, _, _, _, _, _, _, _]) hX dL_numbers_83 (Nat.le_of_ble_eq_true rfl) rfl rfl ?_
      refine zk_iconst (v := 0) hX dL_numbers_85 (by decide) ?_
      refine zk_istore (lo' := [_, _, _, _, _, _, _, _, _, _, _, _]) hX dL_numbers_86 (Nat.le_of_ble_eq_true rfl) rfl rfl ?_
      refine fl W i (1 + m / 64 % 2) _ (by omega) (by omega) (fun D2 a2 w7 w8 w9 w10 w11 k1 k2 k3 => ?_) (1 + m / 64 % 2) 0 (dHand D (12 * (2 + m % 6) + 1 + 5 * i + m / 8 % 5)) _ _ _ _ _ (by omega) ⟨fun c hc => ?_, ?_, gM_hand j3 (by omega) (vbnd (Nat.mod_lt _ (by decide)) (Nat.mod_lt _ (by decide)) (by omega)), by show dW D + 1 = i + 1; omega⟩ hF ?_
      · exact next _ _ k1 (by omega) k3 _ _ _ _ _ _ _
      · rw [zu3_k hc]
        exact j1 c hc
      · rw [zu3_n (by omega)]
        exact j2
      · rw [zu3_f]
        have h9 := aX_hand (v := 12 * (2 + m % 6) + 1 + 5 * i + m / 8 % 5) hA (by omega)
        rw [j4] at h9
        exact h9
  refine zk_aload_n hX dL_numbers_0 rfl ?_
  refine zk_iconst (v := 0) hX dL_numbers_1 (by decide) ?_
  refine zk_iconst (v := 1) hX dL_numbers_2 (by decide) ?_
  refine zk_fload_n hX dL_numbers_3 rfl ?_
  refine zk_iload_n hX dL_numbers_4 rfl ?_
  refine zl_callS (M' := mL_cell) (As := [_, _]) hX dL_numbers_5 kcL_cell mlL_19 smL_cell rfl (s_L_cell (by decide)) rfl rfl (Nat.le_of_ble_eq_true rfl) rfl ⟨Nat.le_of_ble_eq_true rfl, Nat.le_of_ble_eq_true rfl⟩ (fun r Wd1 a2 p => ?_)
  obtain ⟨⟨rfl, rfl⟩, m, hm, rfl⟩ := p
  have em2 : nI m - nI m / 2 * 2 = nI (m % 2) := nI_rem (b := 2) (by omega) (by decide)
  refine zk_iconst (v := 2) hX dL_numbers_8 (by decide) ?_
  refine zk_irem hX dL_numbers_9 (by decide) ?_
  refine zk_iadd hX dL_numbers_10 ?_
  rw [em2, show 1 + nI (m % 2) = nI (1 + m % 2) from nI_addE rfl rfl]
  refine zl_iastE hX hu dL_numbers_11 (nI_k 0 rfl) hk (by first | assumption | omega) ?_
  refine zk_aload_n hX dL_numbers_12 rfl ?_
  refine zk_iconst (v := 3) hX dL_numbers_13 (by decide) ?_
  refine zk_iconst (v := 0) hX dL_numbers_14 (by decide) ?_
  refine zl_iastE hX hu dL_numbers_15 (nI_k 3 rfl) hk (by first | assumption | omega) ?_
  refine zk_aload_n hX dL_numbers_16 rfl ?_
  refine zk_iconst (v := 4) hX dL_numbers_17 (by decide) ?_
  refine zk_iconst (v := 0) hX dL_numbers_18 (by decide) ?_
  refine zl_iastE hX hu dL_numbers_19 (nI_k 4 rfl) hk (by first | assumption | omega) ?_
  refine zk_iconst (v := 0) hX dL_numbers_20 (by decide) ?_
  refine zk_istore (lo' := [_, _, _, _, _, _, _, _, _, _, _, _]) hX dL_numbers_21 (Nat.le_of_ble_eq_true rfl) rfl rfl ?_
  refine il (1 + m % 2) (1 + m % 2) 0 dNil _ _ _ _ _ _ _ _ (by omega) (by omega) (by omega) ⟨fun c hc => ?_, ?_, gM_0, rfl⟩ (Nat.le_refl _) ?_
  · rw [zu3_k hc, zu3_k hc, zu3_k hc]
  · rw [zu3_n (by decide), zu3_n (by decide), zu3_s]
  · refine ⟨⟨?_, ?_⟩, fun h hh => absurd hh (Nat.not_lt_zero _), fun h hh => absurd hh (Nat.not_lt_zero _), fun h hh => absurd hh (Nat.not_lt_zero _)⟩
    · rw [zu3_n (by decide), zu3_s]
      rfl
    · rw [zu3_s]
      rfl
end ZH
