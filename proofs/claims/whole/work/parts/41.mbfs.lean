def mfar (F : Nat → Option Nat) (v : Nat) : Int32 := match F v with
  | some m => nI m
  | none => -1
def mBF (w : zW) (N : Nat) (F : Nat → Option Nat) (Q : Nat → Nat) (n : Nat) : Prop := (∀ v, v < N → w.1 194 v = mfar F v) ∧ ∀ i, i < n → w.1 195 i = nI (Q i)
def mBJ (w : zW) (E : Nat → Nat → Prop) (O : Nat → Bool) (p N h ic c : Nat) (F : Nat → Option Nat) (Q : Nat → Nat) (n : Nat) : Prop := zBI E O p N F Q n h ∧ h < n ∧ Q h = ic ∧ zfd F ic = c ∧ mBF w N F Q n
theorem mfar_neg {F : Nat → Option Nat} {v : Nat} (hm : ∀ m, F v = some m → m < 5000) : (mfar F v < 0 ∧ F v = none) ∨ ∃ m, F v = some m ∧ mfar F v = nI m ∧ ¬ nI m < 0 := by
  unfold mfar
  cases e : F v with
  | none => exact Or.inl ⟨by decide, rfl⟩
  | some m =>
    have := hm m e
    exact Or.inr ⟨m, rfl, rfl, nI_pos (by omega)⟩
def mpush (w : zW) (v c n : Nat) : zW := zsi (zsi w 194 v (nI c)) 195 n (nI v)
theorem mBJ_push {w : zW} {E : Nat → Nat → Prop} {O : Nat → Bool} {p N h ic c : Nat} {F : Nat → Option Nat} {Q : Nat → Nat} {n v : Nat} (J : mBJ w E O p N h ic c F Q n) (hv : v < N) (hE : E ic v) (hF : F v = none) (hO : O v = true) :
    mBJ (mpush w v (c + 1) n) E O p N h ic c (zupO F v (c + 1)) (zupN Q n v) (n + 1) ∧ zvis (zupO F v (c + 1)) v = true ∧ (∀ a, zvis F a = true → zvis (zupO F v (c + 1)) a = true) ∧ n < N := by
  obtain ⟨J1, J2, J3, J4, J5⟩ := J
  have hnN := zBI_room J1 hv hF
  have P := zBI_push J1 J2 hv hF (by rw [J3]; exact hE) hO
  rw [J3, J4] at P
  refine ⟨⟨P, by omega, ?_, ?_, ?_, ?_⟩, ?_, fun a ha => ?_, hnN⟩
  · unfold zupN
    rw [if_neg (by omega), J3]
  · have hne : ic ≠ v := by
      rintro rfl
      have := (J1.2.1 h J2).2
      rw [J3] at this
      unfold zvis at this
      rw [hF] at this
      cases this
    unfold zfd at J4 ⊢
    rw [show zupO F v (c + 1) ic = F ic from if_neg hne]
    exact J4
  · intro a ha
    unfold mpush
    rw [zsi_o (by decide), zsi_1]
    unfold mfar zupO
    by_cases q : a = v
    · rw [if_pos ⟨rfl, q⟩, if_pos q]
    · rw [if_neg (fun z => q z.2), if_neg q]
      exact J5.1 a ha
  · intro i hi
    unfold mpush
    rw [zsi_1]
    unfold zupN
    by_cases q : i = n
    · rw [if_pos ⟨rfl, q⟩, if_pos q]
    · rw [if_neg (fun z => q z.2), if_neg q, zsi_o (by decide)]
      exact J5.2 i (by omega)
  · unfold zvis zupO
    rw [if_pos rfl]
    rfl
  · unfold zvis zupO at *
    by_cases q : a = v
    · rw [if_pos q]
      rfl
    · rw [if_neg q]
      exact ha
theorem s_X12_wayBetween {G : zG} {w : zW} {D : zD} {T p q : Nat} {P : Nat → Bool} (hw : zWf w) (hM : mHd w D) (hD : zDok D) (hS : w.1 166 24 = nI T) (hT9 : T ≤ 99) (hN : zpr (zsp D) (dJ D) ≤ 4096) (hP : ∀ i, i < zpr (zsp D) (dJ D) → w.1 196 i = zb (P i = true)) (hp : p < zpr (zsp D) (dJ D)) (hq : q < zpr (zsp D) (dJ D)) :
    zCi G mX12_wayBetween [.ref 166, .int (nI p), .int (nI q)] w (fun r w' => zFr [179, 180, 181, 194, 195] [] [29] w w' ∧ ((¬ (zkd D (zcode_t D p) (-1) T = 1 ∧ zkd D (zcode_t D q) (-1) T = 1) ∧ r = -9) ∨ ((zkd D (zcode_t D p) (-1) T = 1 ∧ zkd D (zcode_t D q) (-1) T = 1) ∧ ∃ res, r = zoe res ∧ zDs (zadj (zsp D) (dJ D)) (fun v => P v || decide (v = q)) p q res))) := by
  have h6 := hD.1.2.2
  have hpos : ∀ j, j < dJ D → 0 < zsp D j := fun j hj => (zsp_b hD hj).1
  generalize eN : zpr (zsp D) (dJ D) = N at *
  generalize eO : (fun v => P v || decide (v = q)) = O
  have eOv : ∀ v, O v = true ↔ (P v = true ∨ v = q) := by
    intro v
    rw [← eO]
    simp only [Bool.or_eq_true, decide_eq_true_eq]
  refine zC_of (lo := [_, _, _, _, _, _, _, _, _, _, _, _, _]) kcX12_wayBetween (Nat.le_of_ble_eq_true rfl) rfl (fun X hX hE => ?_)
  -- the search
  have search : (zkd D (zcode_t D p) (-1) T = 1 ∧ zkd D (zcode_t D q) (-1) T = 1) → ∀ m h w1 F Q n (a b c d e f g : Value), h + m = N → zFr [179, 180, 181, 194, 195] [] [29] w w1 → zBI (zadj (zsp D) (dJ D)) O p N F Q n h → mBF w1 N F Q n → zk0 G X mX12_wayBetween 69 [.ref 166, .int (nI p), .int (nI q), .int (nI N), .int (nI n), .int (nI h), a, b, c, d, e, f, g] [] w1 := by
    intro hheld
    have out : ∀ h w1 F Q n (a b c d e f g : Value), zFr [179, 180, 181, 194, 195] [] [29] w w1 → zBI (zadj (zsp D) (dJ D)) O p N F Q n h → mBF w1 N F Q n → (h = n ∨ zvis F q = true) → zk0 G X mX12_wayBetween 251 [.ref 166, .int (nI p), .int (nI q), .int (nI N), .int (nI n), .int (nI h), a, b, c, d, e, f, g] [] w1 := by
      intro h w1 F Q n a b c d e f g hF B1 B2 hd
      have hw1 := zFr_wf hF hw
      have hm : ∀ m, F q = some m → m < 5000 := fun m e => by
        have h1 := (B1.2.2.2.2.1 q m e).2
        have h2 : n ≤ N := by rw [B1.1.1]; exact zcnt_le _ _
        omega
      have e0 := B2.1 q hq
      refine zk_aload_n hX dX12_wayBetween_251 rfl ?_
      refine zk_getR hX dX12_wayBetween_252 flX12_93 k_166 z_166 (hw1 _ _ (by decide) |>.trans r_166_46) ?_
      refine zk_iload_n hX dX12_wayBetween_255 rfl ?_
      refine zk_ialdE hX dX12_wayBetween_256 rfl k_194 z_194 (by omega) rfl ?_
      rw [e0]
      refine zk_if_ge (tgt := 265) hX dX12_wayBetween_257 (by decide) (fun c257 => ?_) (fun c257 => ?_)
      · refine zk_aload_n hX dX12_wayBetween_265 rfl ?_
        refine zk_getR hX dX12_wayBetween_266 flX12_93 k_166 z_166 (hw1 _ _ (by decide) |>.trans r_166_46) ?_
        refine zk_iload_n hX dX12_wayBetween_269 rfl ?_
        refine zk_ialdE hX dX12_wayBetween_270 rfl k_194 z_194 (by omega) rfl ?_
        refine zk_iret hX hE rfl ⟨rfl, rfl⟩ dX12_wayBetween_271 ⟨_, rfl, ?_⟩
        refine ⟨hF, Or.inr ⟨hheld, F q, ?_, zBI_far B1 hd⟩⟩
        rcases mfar_neg hm with ⟨e1, e2⟩ | ⟨m, e1, e2, e3⟩
        · rw [e2]
          first
            | rfl
            | exact absurd c257 (Int32.not_le.mpr e1)
        · rw [e1]
          first
            | exact e0.trans e2
            | (exfalso
               rw [e2] at c257
               exact absurd (Int32.not_lt.mp e3) c257)
      · refine zk_bipush (v := -9) hX dX12_wayBetween_260 (by decide) ?_
        refine zk_goto (tgt := 271) hX dX12_wayBetween_262 (by decide) ?_
        refine zk_iret hX hE rfl ⟨rfl, rfl⟩ dX12_wayBetween_271 ⟨_, rfl, ?_⟩
        refine ⟨hF, Or.inr ⟨hheld, F q, ?_, zBI_far B1 hd⟩⟩
        rcases mfar_neg hm with ⟨e1, e2⟩ | ⟨m, e1, e2, e3⟩
        · rw [e2]
          first
            | rfl
            | exact absurd c257 (Int32.not_le.mpr e1)
        · rw [e1]
          first
            | exact e0.trans e2
            | (exfalso
               rw [e2] at c257
               exact absurd (Int32.not_lt.mp e3) c257)
    intro m
    induction m with
    | zero =>
      intro h w1 F Q n a b c d e f g hm hF B1 B2
      have hn : n ≤ N := by rw [B1.1.1]; exact zcnt_le _ _
      have e1 : h = n := by have := B1.1.2.1; omega
      refine zk_iload hX dX12_wayBetween_69 rfl ?_
      refine zk_iload hX dX12_wayBetween_71 rfl ?_
      refine zk_icmp_ge (tgt := 251) hX dX12_wayBetween_73 (by decide) (fun c73 => ?_) (fun c73 => ?_)
      rotate_left
      · exact absurd (nI_le (by omega) (by omega)) c73
      exact out h w1 F Q n _ _ _ _ _ _ _ hF B1 B2 (Or.inl e1)
    | succ m ih =>
      intro h w1 F Q n a b c d e f g hm hF B1 B2
      have hw1 := zFr_wf hF hw
      have hn : n ≤ N := by rw [B1.1.1]; exact zcnt_le _ _
      by_cases hhn : h < n
      · have hQN := (B1.2.1 h hhn).1
        have hQv := (B1.2.1 h hhn).2
        have hcn := (B1.2.2.2.2.1 _ _ (zvis_some hQv)).2
        have hmq : ∀ m, F q = some m → m < 5000 := fun m e => by have h1 := (B1.2.2.2.2.1 q m e).2; omega
        -- the neighbours, joint by joint from behind
        have nb : ∀ j w2 F2 Q2 n2 (d e f g : Value), j ≤ dJ D → zFr [179, 180, 181, 194, 195] [] [29] w w2 → mBJ w2 (zadj (zsp D) (dJ D)) O p N h (Q h) (zfd F (Q h)) F2 Q2 n2 →
            (∀ j', j ≤ j' → j' < dJ D → ∀ v, ((v = Q h + zsf (zsp D) (dJ D) (j' + 1) ∧ zdg (zsp D) (dJ D) (Q h) j' + 1 < zsp D j') ∨ (Q h = v + zsf (zsp D) (dJ D) (j' + 1) ∧ 0 < zdg (zsp D) (dJ D) (Q h) j')) → O v = true → zvis F2 v = true) →
            zk0 G X mX12_wayBetween 105 [.ref 166, .int (nI p), .int (nI q), .int (nI N), .int (nI n2), .int (nI h), .int (nI (Q h)), .int (nI (zsf (zsp D) (dJ D) j)), .int (nI j - 1), d, e, f, g] [] w2 := by
          intro j
          induction j with
          | zero =>
            intro w2 F2 Q2 n2 d e f g _ hF2 J K
            obtain ⟨J1, J2, J3, J4, J5⟩ := J
            refine zk_iload hX dX12_wayBetween_105 rfl ?_
            refine zk_if_lt (tgt := 245) hX dX12_wayBetween_107 (by decide) (fun c107 => ?_) (fun c107 => ?_)
            rotate_left
            · exact absurd (by decide) c107
            refine zk_iinc (lo' := [_, _, _, _, _, _, _, _, _, _, _, _, _]) hX dX12_wayBetween_245 rfl (by first | exact zinc _ | exact rfl) (Nat.le_of_ble_eq_true rfl) rfl rfl ?_
            refine zk_goto (tgt := 69) hX dX12_wayBetween_248 (by decide) ?_
            refine ih (h + 1) w2 F2 Q2 n2 _ _ _ _ _ _ _ (by omega) hF2 (zBI_next J1 J2 (fun v hE hOv _ => ?_)) J5
            obtain ⟨j', hj', hc⟩ := hE
            rw [J3] at hc
            exact K j' (by omega) hj' v hc hOv
          | succ j ih2 =>
            intro w2 F2 Q2 n2 d e f g hj hF2 J K
            rw [show nI (j + 1) - 1 = nI j from nI_pred j]
            have hw2 := zFr_wf hF2 hw
            have hM2 := mHd_f hM hF2 (by decide)
            have hsp := zsp_b hD (show j < dJ D by omega)
            have hst := zsf_pos (sp := zsp D) (m := dJ D) (j := j + 1) hpos
            have hle : zsf (zsp D) (dJ D) (j + 1) ≤ N := by
              have h1 := zpr_sf (zsp D) (show j + 1 ≤ dJ D by omega)
              have h2 : 0 < zpr (zsp D) (j + 1) := zpr_pos (fun k hk => hpos k (by omega))
              rw [eN] at h1
              rw [h1]
              exact Nat.le_mul_of_pos_left _ h2
            have edg := zdg_sf (zsp D) (m := dJ D) (j := j) (Q h) (by omega)
            have hdl : zdg (zsp D) (dJ D) (Q h) j < zsp D j := zdg_lt _ hsp.1 (by omega)
            have es := zsf_s (zsp D) (m := dJ D) (j := j) (by omega)
            -- one neighbour v, by way x
            have try1 : ∀ w3 F3 Q3 n3 v (x : Int32), zFr [179, 180, 181, 194, 195] [] [29] w w3 → mBJ w3 (zadj (zsp D) (dJ D)) O p N h (Q h) (zfd F (Q h)) F3 Q3 n3 → v < N → zadj (zsp D) (dJ D) (Q h) v →
                (∀ w4 F4 Q4 n4, zFr [179, 180, 181, 194, 195] [] [29] w w4 → mBJ w4 (zadj (zsp D) (dJ D)) O p N h (Q h) (zfd F (Q h)) F4 Q4 n4 → (O v = true → zvis F4 v = true) → (∀ a, zvis F3 a = true → zvis F4 a = true) → zk0 G X mX12_wayBetween 226 [.ref 166, .int (nI p), .int (nI q), .int (nI N), .int (nI n4), .int (nI h), .int (nI (Q h)), .int (nI (zsf (zsp D) (dJ D) (j + 1))), .int (nI j), .int (nI (zsp D j)), .int (nI (zdg (zsp D) (dJ D) (Q h) j)), .int x, .int (nI v)] [] w4) →
                zk0 G X mX12_wayBetween 172 [.ref 166, .int (nI p), .int (nI q), .int (nI N), .int (nI n3), .int (nI h), .int (nI (Q h)), .int (nI (zsf (zsp D) (dJ D) (j + 1))), .int (nI j), .int (nI (zsp D j)), .int (nI (zdg (zsp D) (dJ D) (Q h) j)), .int x, .int (nI v)] [] w3 := by
              intro w3 F3 Q3 n3 v x hF3 J3 hv hE kk
              have hw3 := zFr_wf hF3 hw
              have e196 : w3.1 196 v = zb (P v = true) := by rw [hF3.2.1 196 (by decide) (by decide)]; exact hP v hv
              have hn3 : n3 ≤ N := by rw [J3.1.1.1]; exact zcnt_le _ _
              have eQ : w3.1 194 (Q h) = nI (zfd F (Q h)) := by
                have hz := (J3.1.2.1 h J3.2.1).2
                rw [J3.2.2.1] at hz
                rw [J3.2.2.2.2.1 _ hQN]
                unfold mfar
                rw [zvis_some hz, J3.2.2.2.1]
              have ev := J3.2.2.2.2.1 v hv
              have hmv : ∀ m, F3 v = some m → m < 5000 := fun m e => by have h1 := (J3.1.2.2.2.2.1 v m e).2; omega
              have yes : F3 v = none → O v = true → zk0 G X mX12_wayBetween 198 [.ref 166, .int (nI p), .int (nI q), .int (nI N), .int (nI n3), .int (nI h), .int (nI (Q h)), .int (nI (zsf (zsp D) (dJ D) (j + 1))), .int (nI j), .int (nI (zsp D j)), .int (nI (zdg (zsp D) (dJ D) (Q h) j)), .int x, .int (nI v)] [] w3 := by
                intro hFv hOv
                obtain ⟨P1, P2, P3, P4⟩ := mBJ_push J3 hv hE hFv hOv
                have k9 := kk _ _ _ _ (zFr_t hF3 (zFr_t (zFr_i (by decide) (by decide)) (zFr_i (by decide) (by decide)))) P1 (fun _ => P2) P3
                refine zk_aload_n hX dX12_wayBetween_198 rfl ?_
                refine zk_getR hX dX12_wayBetween_199 flX12_93 k_166 z_166 (hw3 _ _ (by decide) |>.trans r_166_46) ?_
                refine zk_iload hX dX12_wayBetween_202 rfl ?_
                refine zk_aload_n hX dX12_wayBetween_204 rfl ?_
                refine zk_getR hX dX12_wayBetween_205 flX12_93 k_166 z_166 (hw3 _ _ (by decide) |>.trans r_166_46) ?_
                refine zk_iload hX dX12_wayBetween_208 rfl ?_
                refine zk_ialdE hX dX12_wayBetween_210 rfl k_194 z_194 (by omega) rfl ?_
                rw [eQ]
                refine zk_iconst (v := 1) hX dX12_wayBetween_211 (by decide) ?_
                refine zk_iadd hX dX12_wayBetween_212 ?_
                rw [nI_1]
                refine zk_iastE hX dX12_wayBetween_213 rfl k_194 z_194 (by omega) rfl ?_
                refine zk_aload_n hX dX12_wayBetween_214 rfl ?_
                refine zk_getR hX dX12_wayBetween_215 flX12_96 k_166 z_166 (hw3 _ _ (by decide) |>.trans r_166_47) ?_
                refine zk_iload hX dX12_wayBetween_218 rfl ?_
                refine zk_iload hX dX12_wayBetween_220 rfl ?_
                refine zk_iastE hX dX12_wayBetween_222 rfl k_195 z_195 (by omega) rfl ?_
                refine zk_iinc (lo' := [_, _, _, _, _, _, _, _, _, _, _, _, _]) hX dX12_wayBetween_223 rfl (by first | exact zinc _ | exact rfl) (Nat.le_of_ble_eq_true rfl) rfl rfl ?_
                exact k9
              have no : ¬ (F3 v = none ∧ O v = true) → zk0 G X mX12_wayBetween 226 [.ref 166, .int (nI p), .int (nI q), .int (nI N), .int (nI n3), .int (nI h), .int (nI (Q h)), .int (nI (zsf (zsp D) (dJ D) (j + 1))), .int (nI j), .int (nI (zsp D j)), .int (nI (zdg (zsp D) (dJ D) (Q h) j)), .int x, .int (nI v)] [] w3 := by
                intro hno
                refine kk w3 F3 Q3 n3 hF3 J3 (fun o => ?_) (fun _ h => h)
                unfold zvis
                cases e : F3 v with
                | none => exact absurd ⟨e, o⟩ hno
                | some m => rfl
              refine zk_aload_n hX dX12_wayBetween_172 rfl ?_
              refine zk_getR hX dX12_wayBetween_173 flX12_93 k_166 z_166 (hw3 _ _ (by decide) |>.trans r_166_46) ?_
              refine zk_iload hX dX12_wayBetween_176 rfl ?_
              refine zk_ialdE hX dX12_wayBetween_178 rfl k_194 z_194 (by omega) rfl ?_
              rw [ev]
              refine zk_if_ge (tgt := 226) hX dX12_wayBetween_179 (by decide) (fun c179 => ?_) (fun c179 => ?_)
              · refine no (fun z => ?_)
                first
                  | (rcases mfar_neg hmv with ⟨e1, e2⟩ | ⟨m, e1, e2, e3⟩
                     · exact absurd c179 (Int32.not_le.mpr e1)
                     · rw [e1] at z
                       cases z.1)
                  | (rcases (eOv v).mp z.2 with z | z
                     · have c190 := zb_0.mp (Decidable.not_not.mp (fun y => c189 y))
                       exact c190 z
                     · exact c195 (by rw [z]))
                  | (rcases (eOv v).mp z.2 with z | z
                     · exact zb_0.mp c189 z
                     · exact c195 (by rw [z]))
              · refine zk_aload_n hX dX12_wayBetween_182 rfl ?_
                refine zk_getR hX dX12_wayBetween_183 flX12_99 k_166 z_166 (hw3 _ _ (by decide) |>.trans r_166_48) ?_
                refine zk_iload hX dX12_wayBetween_186 rfl ?_
                refine zk_zaldE hX dX12_wayBetween_188 rfl k_196 z_196 (by omega) rfl ?_
                rw [e196]
                refine zk_if_ne (tgt := 198) hX dX12_wayBetween_189 (by decide) (fun c189 => ?_) (fun c189 => ?_)
                · refine yes ?_ ((eOv v).mpr ?_)
                  · rcases mfar_neg hmv with ⟨e1, e2⟩ | ⟨m, e1, e2, e3⟩
                    · exact e2
                    · exfalso
                      rw [e2] at c179
                      exact absurd (Int32.not_lt.mp e3) c179
                  · first
                      | exact Or.inl (Decidable.not_not.mp (fun z => c189 (zb_f z)))
                      | exact Or.inr ((nI_eq (by omega) (by omega)).mp (Decidable.not_not.mp c195))
                      | exact Or.inr ((nI_eq (by omega) (by omega)).mp c195)
                · refine zk_iload hX dX12_wayBetween_192 rfl ?_
                  refine zk_iload_n hX dX12_wayBetween_194 rfl ?_
                  refine zk_icmp_ne (tgt := 226) hX dX12_wayBetween_195 (by decide) (fun c195 => ?_) (fun c195 => ?_)
                  · refine no (fun z => ?_)
                    first
                      | (rcases mfar_neg hmv with ⟨e1, e2⟩ | ⟨m, e1, e2, e3⟩
                         · exact absurd c179 (Int32.not_le.mpr e1)
                         · rw [e1] at z
                           cases z.1)
                      | (rcases (eOv v).mp z.2 with z | z
                         · have c190 := zb_0.mp (Decidable.not_not.mp (fun y => c189 y))
                           exact c190 z
                         · exact c195 (by rw [z]))
                      | (rcases (eOv v).mp z.2 with z | z
                         · exact zb_0.mp c189 z
                         · exact c195 (by rw [z]))
                  · refine yes ?_ ((eOv v).mpr ?_)
                    · rcases mfar_neg hmv with ⟨e1, e2⟩ | ⟨m, e1, e2, e3⟩
                      · exact e2
                      · exfalso
                        rw [e2] at c179
                        exact absurd (Int32.not_lt.mp e3) c179
                    · first
                        | exact Or.inl (Decidable.not_not.mp (fun z => c189 (zb_f z)))
                        | exact Or.inr ((nI_eq (by omega) (by omega)).mp (Decidable.not_not.mp c195))
                        | exact Or.inr ((nI_eq (by omega) (by omega)).mp c195)
            -- behind both ways
            have fin3 : ∀ w3 F3 Q3 n3 (g : Value), zFr [179, 180, 181, 194, 195] [] [29] w w3 → mBJ w3 (zadj (zsp D) (dJ D)) O p N h (Q h) (zfd F (Q h)) F3 Q3 n3 → (∀ a, zvis F2 a = true → zvis F3 a = true) →
                (∀ v, ((v = Q h + zsf (zsp D) (dJ D) (j + 1) ∧ zdg (zsp D) (dJ D) (Q h) j + 1 < zsp D j) ∨ (Q h = v + zsf (zsp D) (dJ D) (j + 1) ∧ 0 < zdg (zsp D) (dJ D) (Q h) j)) → O v = true → zvis F3 v = true) →
                zk0 G X mX12_wayBetween 140 [.ref 166, .int (nI p), .int (nI q), .int (nI N), .int (nI n3), .int (nI h), .int (nI (Q h)), .int (nI (zsf (zsp D) (dJ D) (j + 1))), .int (nI j), .int (nI (zsp D j)), .int (nI (zdg (zsp D) (dJ D) (Q h) j)), .int 3, g] [] w3 := by
              intro w3 F3 Q3 n3 g hF3 J3 M3 K3
              refine zk_iload hX dX12_wayBetween_140 rfl ?_
              refine zk_iconst (v := 1) hX dX12_wayBetween_142 (by decide) ?_
              refine zk_icmp_gt (tgt := 232) hX dX12_wayBetween_143 (by decide) (fun c143 => ?_) (fun c143 => ?_)
              rotate_left
              · exact absurd (by decide) c143
              refine zk_iload hX dX12_wayBetween_232 rfl ?_
              refine zk_iload hX dX12_wayBetween_234 rfl ?_
              refine zk_imul hX dX12_wayBetween_236 ?_
              rw [nI_mul, Nat.mul_comm, ← es]
              refine zk_istore (lo' := [_, _, _, _, _, _, _, _, _, _, _, _, _]) hX dX12_wayBetween_237 (Nat.le_of_ble_eq_true rfl) rfl rfl ?_
              refine zk_iinc (lo' := [_, _, _, _, _, _, _, _, _, _, _, _, _]) hX dX12_wayBetween_239 rfl (by exact zdec1 _) (Nat.le_of_ble_eq_true rfl) rfl rfl ?_
              refine zk_goto (tgt := 105) hX dX12_wayBetween_242 (by decide) ?_
              refine ih2 w3 F3 Q3 n3 _ _ _ _ (by omega) hF3 J3 (fun j' h1 h2 v hc ho => ?_)
              rcases Nat.lt_or_ge j j' with g | g
              · exact M3 v (K j' (by omega) h2 v hc ho)
              · obtain rfl : j' = j := by omega
                exact K3 v hc ho
            have q3 : ∀ w3 F3 Q3 n3 (v : Int32), zFr [179, 180, 181, 194, 195] [] [29] w w3 → mBJ w3 (zadj (zsp D) (dJ D)) O p N h (Q h) (zfd F (Q h)) F3 Q3 n3 → (∀ a, zvis F2 a = true → zvis F3 a = true) →
                (∀ v, ((v = Q h + zsf (zsp D) (dJ D) (j + 1) ∧ zdg (zsp D) (dJ D) (Q h) j + 1 < zsp D j) ∨ (Q h = v + zsf (zsp D) (dJ D) (j + 1) ∧ 0 < zdg (zsp D) (dJ D) (Q h) j)) → O v = true → zvis F3 v = true) →
                zk0 G X mX12_wayBetween 226 [.ref 166, .int (nI p), .int (nI q), .int (nI N), .int (nI n3), .int (nI h), .int (nI (Q h)), .int (nI (zsf (zsp D) (dJ D) (j + 1))), .int (nI j), .int (nI (zsp D j)), .int (nI (zdg (zsp D) (dJ D) (Q h) j)), .int 1, .int v] [] w3 := by
              intro w3 F3 Q3 n3 v hF3 J3 M3 K3
              refine zk_iinc (lo' := [_, _, _, _, _, _, _, _, _, _, _, _, _]) hX dX12_wayBetween_226 rfl (by exact (by decide : (1 : Int32) + Int32.ofInt 2 = 3)) (Nat.le_of_ble_eq_true rfl) rfl rfl ?_
              refine zk_goto (tgt := 140) hX dX12_wayBetween_229 (by decide) ?_
              exact fin3 w3 F3 Q3 n3 _ hF3 J3 M3 K3
            have up : ∀ w3 F3 Q3 n3 (g : Value), zFr [179, 180, 181, 194, 195] [] [29] w w3 → mBJ w3 (zadj (zsp D) (dJ D)) O p N h (Q h) (zfd F (Q h)) F3 Q3 n3 → (∀ a, zvis F2 a = true → zvis F3 a = true) →
                (∀ v, (Q h = v + zsf (zsp D) (dJ D) (j + 1) ∧ 0 < zdg (zsp D) (dJ D) (Q h) j) → O v = true → zvis F3 v = true) →
                zk0 G X mX12_wayBetween 140 [.ref 166, .int (nI p), .int (nI q), .int (nI N), .int (nI n3), .int (nI h), .int (nI (Q h)), .int (nI (zsf (zsp D) (dJ D) (j + 1))), .int (nI j), .int (nI (zsp D j)), .int (nI (zdg (zsp D) (dJ D) (Q h) j)), .int 1, g] [] w3 := by
              intro w3 F3 Q3 n3 g hF3 J3 M3 K3
              have ew : nI (Q h) + 1 * nI (zsf (zsp D) (dJ D) (j + 1)) = nI (Q h + zsf (zsp D) (dJ D) (j + 1)) := by
                rw [← nI_add]
                grind
              by_cases hu : zdg (zsp D) (dJ D) (Q h) j + 1 < zsp D j
              · have hup := zdg_up (sp := zsp D) (m := dJ D) (i := Q h) (j := j) hpos (by omega) (by rw [eN]; exact hQN) hu
                rw [eN] at hup
                have t1 := try1 w3 F3 Q3 n3 (Q h + zsf (zsp D) (dJ D) (j + 1)) 1 hF3 J3 hup ⟨j, by omega, Or.inl ⟨rfl, hu⟩⟩ (fun w4 F4 Q4 n4 a1 a2 a3 a4 => q3 w4 F4 Q4 n4 _ a1 a2 (fun a ha => a4 a (M3 a ha)) (fun v hc ho => by
                    rcases hc with hc | hc
                    · rw [hc.1] at ho ⊢
                      exact a3 ho
                    · exact a4 v (K3 v hc ho)))
                refine zk_iload hX dX12_wayBetween_140 rfl ?_
                refine zk_iconst (v := 1) hX dX12_wayBetween_142 (by decide) ?_
                refine zk_icmp_gt (tgt := 232) hX dX12_wayBetween_143 (by decide) (fun c143 => ?_) (fun c143 => ?_)
                · exact absurd c143 (by decide)
                refine zk_iload hX dX12_wayBetween_146 rfl ?_
                refine zk_iload hX dX12_wayBetween_148 rfl ?_
                refine zk_iload hX dX12_wayBetween_150 rfl ?_
                refine zk_imul hX dX12_wayBetween_152 ?_
                refine zk_iadd hX dX12_wayBetween_153 ?_
                rw [ew]
                refine zk_istore (lo' := [_, _, _, _, _, _, _, _, _, _, _, _, _]) hX dX12_wayBetween_154 (Nat.le_of_ble_eq_true rfl) rfl rfl ?_
                refine zk_iload hX dX12_wayBetween_156 rfl ?_
                refine zk_iload hX dX12_wayBetween_158 rfl ?_
                refine zk_iadd hX dX12_wayBetween_160 ?_
                rw [nI_1]
                refine zk_iconst (v := 0) hX dX12_wayBetween_161 (by decide) ?_
                refine zk_iload hX dX12_wayBetween_162 rfl ?_
                refine zk_iconst (v := 1) hX dX12_wayBetween_164 (by decide) ?_
                refine zk_isub hX dX12_wayBetween_165 ?_
                rw [show (1 : Int32) = nI 1 from rfl, nI_sub hsp.1]
                refine zk_S3i hX dX12_wayBetween_166 kcX12_in mlX12_131 smX12_in rfl (s_X12_in _ _ _) (Nat.le_of_ble_eq_true rfl) rfl ?_
                refine zk_if_eqB (tgt := 226) hX dX12_wayBetween_169 (by decide) (fun c169 => ?_) (fun c169 => ?_)
                · exact absurd c169 (fun z => z ⟨nI_pos' (by omega), nI_le (by omega) (by omega)⟩)
                exact t1
              · have k9 := fun g => fin3 w3 F3 Q3 n3 g hF3 J3 M3 (fun v hc ho => by
                  rcases hc with hc | hc
                  · exact absurd hc.2 hu
                  · exact K3 v hc ho)
                refine zk_iload hX dX12_wayBetween_140 rfl ?_
                refine zk_iconst (v := 1) hX dX12_wayBetween_142 (by decide) ?_
                refine zk_icmp_gt (tgt := 232) hX dX12_wayBetween_143 (by decide) (fun c143 => ?_) (fun c143 => ?_)
                · exact absurd c143 (by decide)
                refine zk_iload hX dX12_wayBetween_146 rfl ?_
                refine zk_iload hX dX12_wayBetween_148 rfl ?_
                refine zk_iload hX dX12_wayBetween_150 rfl ?_
                refine zk_imul hX dX12_wayBetween_152 ?_
                refine zk_iadd hX dX12_wayBetween_153 ?_
                rw [ew]
                refine zk_istore (lo' := [_, _, _, _, _, _, _, _, _, _, _, _, _]) hX dX12_wayBetween_154 (Nat.le_of_ble_eq_true rfl) rfl rfl ?_
                refine zk_iload hX dX12_wayBetween_156 rfl ?_
                refine zk_iload hX dX12_wayBetween_158 rfl ?_
                refine zk_iadd hX dX12_wayBetween_160 ?_
                rw [nI_1]
                refine zk_iconst (v := 0) hX dX12_wayBetween_161 (by decide) ?_
                refine zk_iload hX dX12_wayBetween_162 rfl ?_
                refine zk_iconst (v := 1) hX dX12_wayBetween_164 (by decide) ?_
                refine zk_isub hX dX12_wayBetween_165 ?_
                rw [show (1 : Int32) = nI 1 from rfl, nI_sub hsp.1]
                refine zk_S3i hX dX12_wayBetween_166 kcX12_in mlX12_131 smX12_in rfl (s_X12_in _ _ _) (Nat.le_of_ble_eq_true rfl) rfl ?_
                refine zk_if_eqB (tgt := 226) hX dX12_wayBetween_169 (by decide) (fun c169 => ?_) (fun c169 => ?_)
                rotate_left
                · exact absurd c169.2 (nI_ge (by omega) (by omega))
                refine zk_iinc (lo' := [_, _, _, _, _, _, _, _, _, _, _, _, _]) hX dX12_wayBetween_226 rfl (by exact (by decide : (1 : Int32) + Int32.ofInt 2 = 3)) (Nat.le_of_ble_eq_true rfl) rfl rfl ?_
                refine zk_goto (tgt := 140) hX dX12_wayBetween_229 (by decide) ?_
                exact k9 _
            have q1 : ∀ w3 F3 Q3 n3 (v : Int32), zFr [179, 180, 181, 194, 195] [] [29] w w3 → mBJ w3 (zadj (zsp D) (dJ D)) O p N h (Q h) (zfd F (Q h)) F3 Q3 n3 → (∀ a, zvis F2 a = true → zvis F3 a = true) →
                (∀ v, (Q h = v + zsf (zsp D) (dJ D) (j + 1) ∧ 0 < zdg (zsp D) (dJ D) (Q h) j) → O v = true → zvis F3 v = true) →
                zk0 G X mX12_wayBetween 226 [.ref 166, .int (nI p), .int (nI q), .int (nI N), .int (nI n3), .int (nI h), .int (nI (Q h)), .int (nI (zsf (zsp D) (dJ D) (j + 1))), .int (nI j), .int (nI (zsp D j)), .int (nI (zdg (zsp D) (dJ D) (Q h) j)), .int (-1), .int v] [] w3 := by
              intro w3 F3 Q3 n3 v hF3 J3 M3 K3
              refine zk_iinc (lo' := [_, _, _, _, _, _, _, _, _, _, _, _, _]) hX dX12_wayBetween_226 rfl (by exact (by decide : (-1 : Int32) + Int32.ofInt 2 = 1)) (Nat.le_of_ble_eq_true rfl) rfl rfl ?_
              refine zk_goto (tgt := 140) hX dX12_wayBetween_229 (by decide) ?_
              exact up w3 F3 Q3 n3 _ hF3 J3 M3 K3
            have down : zk0 G X mX12_wayBetween 140 [.ref 166, .int (nI p), .int (nI q), .int (nI N), .int (nI n2), .int (nI h), .int (nI (Q h)), .int (nI (zsf (zsp D) (dJ D) (j + 1))), .int (nI j), .int (nI (zsp D j)), .int (nI (zdg (zsp D) (dJ D) (Q h) j)), .int (-1), g] [] w2 := by
              by_cases hu : 0 < zdg (zsp D) (dJ D) (Q h) j
              · have hge : zsf (zsp D) (dJ D) (j + 1) ≤ Q h := by
                  rw [edg] at hu
                  rcases Nat.lt_or_ge (Q h) (zsf (zsp D) (dJ D) (j + 1)) with g | g
                  · rw [Nat.div_eq_of_lt g, Nat.zero_mod] at hu
                    omega
                  · exact g
                have ew : nI (Q h) + -1 * nI (zsf (zsp D) (dJ D) (j + 1)) = nI (Q h - zsf (zsp D) (dJ D) (j + 1)) := by
                  rw [← nI_sub hge]
                  grind
                have ed : nI (zdg (zsp D) (dJ D) (Q h) j) + -1 = nI (zdg (zsp D) (dJ D) (Q h) j - 1) := by
                  rw [← nI_sub hu]
                  exact (Int32.sub_eq_add_neg _ _).symm
                have t1 := try1 w2 F2 Q2 n2 (Q h - zsf (zsp D) (dJ D) (j + 1)) (-1) hF2 J (by omega) ⟨j, by omega, Or.inr ⟨by omega, hu⟩⟩ (fun w4 F4 Q4 n4 a1 a2 a3 a4 => q1 w4 F4 Q4 n4 _ a1 a2 a4 (fun v hc ho => by
                    have ev : v = Q h - zsf (zsp D) (dJ D) (j + 1) := by omega
                    rw [ev] at ho ⊢
                    exact a3 ho))
                refine zk_iload hX dX12_wayBetween_140 rfl ?_
                refine zk_iconst (v := 1) hX dX12_wayBetween_142 (by decide) ?_
                refine zk_icmp_gt (tgt := 232) hX dX12_wayBetween_143 (by decide) (fun c143 => ?_) (fun c143 => ?_)
                · exact absurd c143 (by decide)
                refine zk_iload hX dX12_wayBetween_146 rfl ?_
                refine zk_iload hX dX12_wayBetween_148 rfl ?_
                refine zk_iload hX dX12_wayBetween_150 rfl ?_
                refine zk_imul hX dX12_wayBetween_152 ?_
                refine zk_iadd hX dX12_wayBetween_153 ?_
                rw [ew]
                refine zk_istore (lo' := [_, _, _, _, _, _, _, _, _, _, _, _, _]) hX dX12_wayBetween_154 (Nat.le_of_ble_eq_true rfl) rfl rfl ?_
                refine zk_iload hX dX12_wayBetween_156 rfl ?_
                refine zk_iload hX dX12_wayBetween_158 rfl ?_
                refine zk_iadd hX dX12_wayBetween_160 ?_
                rw [ed]
                refine zk_iconst (v := 0) hX dX12_wayBetween_161 (by decide) ?_
                refine zk_iload hX dX12_wayBetween_162 rfl ?_
                refine zk_iconst (v := 1) hX dX12_wayBetween_164 (by decide) ?_
                refine zk_isub hX dX12_wayBetween_165 ?_
                rw [show (1 : Int32) = nI 1 from rfl, nI_sub hsp.1]
                refine zk_S3i hX dX12_wayBetween_166 kcX12_in mlX12_131 smX12_in rfl (s_X12_in _ _ _) (Nat.le_of_ble_eq_true rfl) rfl ?_
                refine zk_if_eqB (tgt := 226) hX dX12_wayBetween_169 (by decide) (fun c169 => ?_) (fun c169 => ?_)
                · exact absurd c169 (fun z => z ⟨nI_pos' (by omega), nI_le (by omega) (by omega)⟩)
                exact t1
              · have k9 := fun g => up w2 F2 Q2 n2 g hF2 J (fun _ h => h) (fun v hc _ => absurd hc.2 hu)
                have e0 : zdg (zsp D) (dJ D) (Q h) j = 0 := by omega
                refine zk_iload hX dX12_wayBetween_140 rfl ?_
                refine zk_iconst (v := 1) hX dX12_wayBetween_142 (by decide) ?_
                refine zk_icmp_gt (tgt := 232) hX dX12_wayBetween_143 (by decide) (fun c143 => ?_) (fun c143 => ?_)
                · exact absurd c143 (by decide)
                refine zk_iload hX dX12_wayBetween_146 rfl ?_
                refine zk_iload hX dX12_wayBetween_148 rfl ?_
                refine zk_iload hX dX12_wayBetween_150 rfl ?_
                refine zk_imul hX dX12_wayBetween_152 ?_
                refine zk_iadd hX dX12_wayBetween_153 ?_
                refine zk_istore (lo' := [_, _, _, _, _, _, _, _, _, _, _, _, _]) hX dX12_wayBetween_154 (Nat.le_of_ble_eq_true rfl) rfl rfl ?_
                refine zk_iload hX dX12_wayBetween_156 rfl ?_
                refine zk_iload hX dX12_wayBetween_158 rfl ?_
                refine zk_iadd hX dX12_wayBetween_160 ?_
                refine zk_iconst (v := 0) hX dX12_wayBetween_161 (by decide) ?_
                refine zk_iload hX dX12_wayBetween_162 rfl ?_
                refine zk_iconst (v := 1) hX dX12_wayBetween_164 (by decide) ?_
                refine zk_isub hX dX12_wayBetween_165 ?_
                refine zk_S3i hX dX12_wayBetween_166 kcX12_in mlX12_131 smX12_in rfl (s_X12_in _ _ _) (Nat.le_of_ble_eq_true rfl) rfl ?_
                refine zk_if_eqB (tgt := 226) hX dX12_wayBetween_169 (by decide) (fun c169 => ?_) (fun c169 => ?_)
                rotate_left
                · (rw [e0] at c169; exact absurd c169.1 (by decide))
                refine zk_iinc (lo' := [_, _, _, _, _, _, _, _, _, _, _, _, _]) hX dX12_wayBetween_226 rfl (by exact (by decide : (-1 : Int32) + Int32.ofInt 2 = 1)) (Nat.le_of_ble_eq_true rfl) rfl rfl ?_
                refine zk_goto (tgt := 140) hX dX12_wayBetween_229 (by decide) ?_
                exact k9 _
            refine zk_iload hX dX12_wayBetween_105 rfl ?_
            refine zk_if_lt (tgt := 245) hX dX12_wayBetween_107 (by decide) (fun c107 => ?_) (fun c107 => ?_)
            · exact absurd c107 (nI_pos (by omega))
            refine zk_aload_n hX dX12_wayBetween_110 rfl ?_
            refine zk_iload hX dX12_wayBetween_111 rfl ?_
            refine zk_V1i hX dX12_wayBetween_113 kcX12_most mlX12_251 viX12_most rfl k_166 z_166 (s_X12_most hw2 hM2 hD (by omega)) (Nat.le_of_ble_eq_true rfl) rfl ?_
            refine zk_aload_n hX dX12_wayBetween_116 rfl ?_
            refine zk_iload hX dX12_wayBetween_117 rfl ?_
            refine zk_V1i hX dX12_wayBetween_119 kcX12_least mlX12_254 viX12_least rfl k_166 z_166 (s_X12_least hw2 hM2 hD (by omega)) (Nat.le_of_ble_eq_true rfl) rfl ?_
            refine zk_isub hX dX12_wayBetween_122 ?_
            refine zk_iconst (v := 1) hX dX12_wayBetween_123 (by decide) ?_
            refine zk_iadd hX dX12_wayBetween_124 ?_
            rw [zspan_eq]
            refine zk_istore (lo' := [_, _, _, _, _, _, _, _, _, _, _, _, _]) hX dX12_wayBetween_125 (Nat.le_of_ble_eq_true rfl) rfl rfl ?_
            refine zk_iload hX dX12_wayBetween_127 rfl ?_
            refine zk_iload hX dX12_wayBetween_129 rfl ?_
            refine zk_idiv hX dX12_wayBetween_131 (nI_ne0 hst (by omega)) ?_
            rw [nI_div (by omega) (by omega)]
            refine zk_iload hX dX12_wayBetween_132 rfl ?_
            refine zk_irem hX dX12_wayBetween_134 (nI_ne0 hsp.1 (by omega)) ?_
            rw [nI_rem (Nat.lt_of_le_of_lt (Nat.div_le_self _ _) (by omega)) (by omega), ← edg]
            refine zk_istore (lo' := [_, _, _, _, _, _, _, _, _, _, _, _, _]) hX dX12_wayBetween_135 (Nat.le_of_ble_eq_true rfl) rfl rfl ?_
            refine zk_iconst (v := -1) hX dX12_wayBetween_137 (by decide) ?_
            refine zk_istore (lo' := [_, _, _, _, _, _, _, _, _, _, _, _, _]) hX dX12_wayBetween_138 (Nat.le_of_ble_eq_true rfl) rfl rfl ?_
            exact down
        refine zk_iload hX dX12_wayBetween_69 rfl ?_
        refine zk_iload hX dX12_wayBetween_71 rfl ?_
        refine zk_icmp_ge (tgt := 251) hX dX12_wayBetween_73 (by decide) (fun c73 => ?_) (fun c73 => ?_)
        · exact absurd c73 (nI_ge hhn (by omega))
        refine zk_aload_n hX dX12_wayBetween_76 rfl ?_
        refine zk_getR hX dX12_wayBetween_77 flX12_93 k_166 z_166 (hw1 _ _ (by decide) |>.trans r_166_46) ?_
        refine zk_iload_n hX dX12_wayBetween_80 rfl ?_
        refine zk_ialdE hX dX12_wayBetween_81 rfl k_194 z_194 (by omega) rfl ?_
        rw [B2.1 q hq]
        refine zk_if_ge (tgt := 251) hX dX12_wayBetween_82 (by decide) (fun c82 => ?_) (fun c82 => ?_)
        · refine out h w1 F Q n _ _ _ _ _ _ _ hF B1 B2 (Or.inr ?_)
          rcases mfar_neg hmq with ⟨e1, e2⟩ | ⟨m, e1, e2, e3⟩
          · exact absurd c82 (Int32.not_le.mpr e1)
          · unfold zvis
            rw [e1]
            rfl
        · refine zk_aload_n hX dX12_wayBetween_85 rfl ?_
          refine zk_getR hX dX12_wayBetween_86 flX12_96 k_166 z_166 (hw1 _ _ (by decide) |>.trans r_166_47) ?_
          refine zk_iload hX dX12_wayBetween_89 rfl ?_
          refine zk_ialdE hX dX12_wayBetween_91 rfl k_195 z_195 (by omega) rfl ?_
          rw [B2.2 h hhn]
          refine zk_istore (lo' := [_, _, _, _, _, _, _, _, _, _, _, _, _]) hX dX12_wayBetween_92 (Nat.le_of_ble_eq_true rfl) rfl rfl ?_
          refine zk_iconst (v := 1) hX dX12_wayBetween_94 (by decide) ?_
          refine zk_istore (lo' := [_, _, _, _, _, _, _, _, _, _, _, _, _]) hX dX12_wayBetween_95 (Nat.le_of_ble_eq_true rfl) rfl rfl ?_
          refine zk_aload_n hX dX12_wayBetween_97 rfl ?_
          refine zk_getI hX dX12_wayBetween_98 flX12_199 k_166 z_166 ?_
          rw [(mHd_f hM hF (by decide)).1.2.2]
          refine zk_iconst (v := 1) hX dX12_wayBetween_101 (by decide) ?_
          refine zk_isub hX dX12_wayBetween_102 ?_
          refine zk_istore (lo' := [_, _, _, _, _, _, _, _, _, _, _, _, _]) hX dX12_wayBetween_103 (Nat.le_of_ble_eq_true rfl) rfl rfl ?_
          have k9 := (fun d e f g => nb (dJ D) w1 F Q n d e f g (Nat.le_refl _) hF ⟨B1, hhn, rfl, rfl, B2⟩ (fun j' h1 h2 => absurd h1 (by omega)))
          rw [zsf_ge _ (Nat.le_refl _)] at k9
          exact k9 _ _ _ _
      · have e1 : h = n := by have := B1.1.2.1; omega
        refine zk_iload hX dX12_wayBetween_69 rfl ?_
        refine zk_iload hX dX12_wayBetween_71 rfl ?_
        refine zk_icmp_ge (tgt := 251) hX dX12_wayBetween_73 (by decide) (fun c73 => ?_) (fun c73 => ?_)
        rotate_left
        · exact absurd (nI_le (by omega) (by omega)) c73
        exact out h w1 F Q n _ _ _ _ _ _ _ hF B1 B2 (Or.inl e1)
  have init : (zkd D (zcode_t D p) (-1) T = 1 ∧ zkd D (zcode_t D q) (-1) T = 1) → ∀ m i w1 (a b c d e f g h : Value), i + m = N → zFr [179, 180, 181, 194, 195] [] [29] w w1 → (∀ v, v < i → w1.1 194 v = -1) → zk0 G X mX12_wayBetween 29 [.ref 166, .int (nI p), .int (nI q), .int (nI N), .int (nI i), a, b, c, d, e, f, g, h] [] w1 := by
    intro hheld m
    induction m with
    | zero =>
      intro i w1 a b c d e f g h hi hF g1
      obtain rfl : i = N := by omega
      have hw1 := zFr_wf hF hw
      have B1 := zBI_0 (E := zadj (zsp D) (dJ D)) (O := O) (p := p) (N := i) (Q := fun _ => p) hp rfl
      have B2 : mBF (zsi (zsi w1 194 p 0) 195 0 (nI p)) i (zst0 p) (fun _ => p) 1 := by
        refine ⟨fun v hv => ?_, fun k hk => ?_⟩
        · rw [zsi_o (by decide), zsi_1]
          unfold mfar zst0
          by_cases qv : v = p
          · rw [if_pos ⟨rfl, qv⟩, if_pos qv]
            rfl
          · rw [if_neg (fun z => qv z.2), if_neg qv]
            exact g1 v hv
        · obtain rfl : k = 0 := by omega
          rw [zsi_1, if_pos ⟨rfl, rfl⟩]
      have k9 := fun a b c d e f g => search hheld i 0 _ (zst0 p) (fun _ => p) 1 a b c d e f g (by omega) (zFr_t hF (zFr_t (zFr_i (by decide) (by decide)) (zFr_i (by decide) (by decide)))) B1 B2
      refine zk_iload hX dX12_wayBetween_29 rfl ?_
      refine zk_iload_n hX dX12_wayBetween_31 rfl ?_
      refine zk_icmp_ge (tgt := 49) hX dX12_wayBetween_32 (by decide) (fun c32 => ?_) (fun c32 => ?_)
      rotate_left
      · exact absurd (nI_le (Nat.le_refl _) (by omega)) c32
      refine zk_aload_n hX dX12_wayBetween_49 rfl ?_
      refine zk_getR hX dX12_wayBetween_50 flX12_93 k_166 z_166 (hw1 _ _ (by decide) |>.trans r_166_46) ?_
      refine zk_iload_n hX dX12_wayBetween_53 rfl ?_
      refine zk_iconst (v := 0) hX dX12_wayBetween_54 (by decide) ?_
      refine zk_iastE hX dX12_wayBetween_55 rfl k_194 z_194 (by omega) rfl ?_
      refine zk_aload_n hX dX12_wayBetween_56 rfl ?_
      refine zk_getR hX dX12_wayBetween_57 flX12_96 k_166 z_166 (hw1 _ _ (by decide) |>.trans r_166_47) ?_
      refine zk_iconst (v := 0) hX dX12_wayBetween_60 (by decide) ?_
      refine zk_iload_n hX dX12_wayBetween_61 rfl ?_
      refine zk_iastE hX dX12_wayBetween_62 (nI_k 0 rfl) k_195 z_195 (by omega) rfl ?_
      refine zk_iconst (v := 1) hX dX12_wayBetween_63 (by decide) ?_
      refine zk_istore (lo' := [_, _, _, _, _, _, _, _, _, _, _, _, _]) hX dX12_wayBetween_64 (Nat.le_of_ble_eq_true rfl) rfl rfl ?_
      refine zk_iconst (v := 0) hX dX12_wayBetween_66 (by decide) ?_
      refine zk_istore (lo' := [_, _, _, _, _, _, _, _, _, _, _, _, _]) hX dX12_wayBetween_67 (Nat.le_of_ble_eq_true rfl) rfl rfl ?_
      exact k9 _ _ _ _ _ _ _
    | succ m ih =>
      intro i w1 a b c d e f g h hi hF g1
      have hw1 := zFr_wf hF hw
      refine zk_iload hX dX12_wayBetween_29 rfl ?_
      refine zk_iload_n hX dX12_wayBetween_31 rfl ?_
      refine zk_icmp_ge (tgt := 49) hX dX12_wayBetween_32 (by decide) (fun c32 => ?_) (fun c32 => ?_)
      · exact absurd c32 (nI_ge (by omega) (by omega))
      refine zk_aload_n hX dX12_wayBetween_35 rfl ?_
      refine zk_getR hX dX12_wayBetween_36 flX12_93 k_166 z_166 (hw1 _ _ (by decide) |>.trans r_166_46) ?_
      refine zk_iload hX dX12_wayBetween_39 rfl ?_
      refine zk_iconst (v := -1) hX dX12_wayBetween_41 (by decide) ?_
      refine zk_iastE hX dX12_wayBetween_42 rfl k_194 z_194 (by omega) rfl ?_
      refine zk_iinc (lo' := [_, _, _, _, _, _, _, _, _, _, _, _, _]) hX dX12_wayBetween_43 rfl (by first | exact zinc _ | exact rfl) (Nat.le_of_ble_eq_true rfl) rfl rfl ?_
      refine zk_goto (tgt := 29) hX dX12_wayBetween_46 (by decide) ?_
      refine ih (i + 1) _ _ _ _ _ _ _ _ _ (by omega) (zFr_t hF (zFr_i (by decide) (by decide))) (fun v hv => ?_)
      rw [zsi_1]
      by_cases q : v = i
      · rw [if_pos ⟨rfl, q⟩]
      · rw [if_neg (fun z => q z.2)]
        exact g1 v (by omega)
  have cT := s_X12_turnsMany (G := G) hw hM hD
  rw [eN] at cT
  refine zk_aload_n hX dX12_wayBetween_0 rfl ?_
  refine zk_V0i hX dX12_wayBetween_1 kcX12_turnsMany mlX12_329 viX12_turnsMany rfl k_166 z_166 cT (Nat.le_of_ble_eq_true rfl) rfl ?_
  refine zk_istore_n (lo' := [_, _, _, _, _, _, _, _, _, _, _, _, _]) hX dX12_wayBetween_4 (Nat.le_of_ble_eq_true rfl) rfl rfl ?_
  refine zk_aload_n hX dX12_wayBetween_5 rfl ?_
  refine zk_iload_n hX dX12_wayBetween_6 rfl ?_
  refine zk_iconst (v := -1) hX dX12_wayBetween_7 (by decide) ?_
  refine zk_V2ip hX dX12_wayBetween_8 kcX12_isHeld mlX12_332 viX12_isHeld rfl k_166 z_166 (s_X12_isHeld hw hM hD (Or.inl rfl) hS hT9 (by omega)) (Nat.le_of_ble_eq_true rfl) rfl (fun r w1 q1 => ?_)
  obtain ⟨rfl, a1, a2, a3⟩ := q1
  have hw1 := zFr_wf a1 hw
  have hM1 := mHd_f hM a1 (by decide)
  have e24 := (a1.2.2.2 24 (by decide)).trans hS
  refine zk_if_eqB (tgt := 23) hX dX12_wayBetween_11 (by decide) (fun c11 => ?_) (fun c11 => ?_)
  · refine zk_bipush (v := -9) hX dX12_wayBetween_23 (by decide) ?_
    refine zk_iret hX hE rfl ⟨rfl, rfl⟩ dX12_wayBetween_25 ⟨_, rfl, ?_⟩
    first
    | exact ⟨zFr_s a1 (by decide), Or.inl ⟨fun z => c11 z.1, rfl⟩⟩
    | exact ⟨zFr_t (zFr_s a1 (by decide)) (zFr_s b1 (by decide)), Or.inl ⟨fun z => c20 z.2, rfl⟩⟩
  · refine zk_aload_n hX dX12_wayBetween_14 rfl ?_
    refine zk_iload_n hX dX12_wayBetween_15 rfl ?_
    refine zk_iconst (v := -1) hX dX12_wayBetween_16 (by decide) ?_
    refine zk_V2ip hX dX12_wayBetween_17 kcX12_isHeld mlX12_332 viX12_isHeld rfl k_166 z_166 (s_X12_isHeld hw1 hM1 hD (Or.inl rfl) e24 hT9 (by omega)) (Nat.le_of_ble_eq_true rfl) rfl (fun r w2 q2 => ?_)
    obtain ⟨rfl, b1, b2, b3⟩ := q2
    refine zk_if_neB (tgt := 26) hX dX12_wayBetween_20 (by decide) (fun c20 => ?_) (fun c20 => ?_)
    · refine zk_iconst (v := 0) hX dX12_wayBetween_26 (by decide) ?_
      refine zk_istore (lo' := [_, _, _, _, _, _, _, _, _, _, _, _, _]) hX dX12_wayBetween_27 (Nat.le_of_ble_eq_true rfl) rfl rfl ?_
      exact init ⟨by first | exact c11 | exact Decidable.not_not.mp c11, by first | exact c20 | exact Decidable.not_not.mp c20⟩ N 0 w2 _ _ _ _ _ _ _ _ (by omega) (zFr_t (zFr_s a1 (by decide)) (zFr_s b1 (by decide))) (fun v hv => absurd hv (by omega))
    · refine zk_bipush (v := -9) hX dX12_wayBetween_23 (by decide) ?_
      refine zk_iret hX hE rfl ⟨rfl, rfl⟩ dX12_wayBetween_25 ⟨_, rfl, ?_⟩
      first
      | exact ⟨zFr_s a1 (by decide), Or.inl ⟨fun z => c11 z.1, rfl⟩⟩
      | exact ⟨zFr_t (zFr_s a1 (by decide)) (zFr_s b1 (by decide)), Or.inl ⟨fun z => c20 z.2, rfl⟩⟩
