/-- all but text 3 -/
def hF (w w' : zW) : Prop := (∀ k, k ≠ 23 → k ≠ 24 → w'.1 k = w.1 k) ∧ w'.2 = w.2
theorem hF_t {w w1 w2 : zW} (h : hF w w1) (h2 : tF w1 w2) : hF w w2 := ⟨fun k q1 q2 => (h2.1 k q2).trans (h.1 k q1 q2), h2.2.trans h.2⟩
theorem hF_wf {w w1 : zW} (h : hF w w1) (hw : zWf w) : zWf w1 := zWf_of hw (by rw [h.2])
def hP (Wd : Bool → zW) (b : Bool) (Wd1 : Bool → zW) (l : List Nat) : Prop := zot Wd Wd1 b ∧ hF (Wd b) (Wd1 b) ∧ tX (Wd1 b) l
theorem hP_t {Wd Wd1 Wd2 : Bool → zW} {b : Bool} {l l2 : List Nat} (h : hP Wd b Wd1 l) (h1 : zot Wd1 Wd2 b) (h2 : tF (Wd1 b) (Wd2 b)) (h3 : tX (Wd2 b) l2) : hP Wd b Wd2 l2 := ⟨zot_t h.1 h1, hF_t h.2.1 h2, h3⟩
/-- the hands were told: what stands, what may have changed -/
def hO (D : zD) (w w' : zW) : Prop := zWf w' ∧ (∃ E, eqD E D ∧ zDok E ∧ cHd w' 26 E ∧ cRe w' E) ∧ w'.1 114 2 = 0 ∧ (w'.1 0 10 = 0 ∧ ∀ i, i ≠ 10 → w'.1 0 i = w.1 0 i) ∧ (∀ c, c ∉ oHd → c ≠ 23 → c ≠ 24 → w'.1 c = w.1 c) ∧ ∀ c, c ∉ [135, 136, 141, 142, 146] → w'.2.1 c = w.2.1 c
theorem len_1 {l : List Nat} {x : Nat} : l.length + 1 = (l ++ [x]).length := by simp
theorem len_2 {l : List Nat} {x y : Nat} : l.length + 2 = (l ++ [x, y]).length := by simp
section ZH
variable {G : zG} {n : Nat} {Wd : Bool → zW} {a3 : zA3} {b : Bool} {D : zD}
theorem s_L_hands {k : Nat} {c : Nat → Nat} (hn : zLn n) (hk : zAr n k 64) (hA : aH (a3 k) D) (hg : gD D c) (hw : zWf (Wd b)) (h4 : (Wd b).1 114 2 = 0) : zDi G n mL_hands [.ref (zro b), .ref k] Wd a3 (fun x Wd1 a1 => x = 1 ∧ a1 = a3 ∧ zot Wd Wd1 b ∧ hO D (Wd b) (Wd1 b)) := by
  have hu := zLn_u hn
  have hn2 := zLn_2 hn
  have hD := hg.1
  have hW2 := hD.1.1
  have hF4 := hg.2.1.2.1
  have hJ3 := hg.2.1.2.2
  have hzJ := hD.2.2.2.1
  have hR := s_X11_text (G := zGb G b) hw (r := 3) (by decide) (n := 60) (by decide)
  rw [zFi, show c_text (Wd b) 3 60 = (60, zfill (zsi (Wd b) 23 0 60) 24 60 32) from if_neg (by decide)] at hR
  refine zC_of (lo := [_, _, _, _, _, _]) kcL_hands (Nat.le_of_ble_eq_true rfl) rfl (fun X hX hE => ?_)
  have jl : ∀ (i f : Nat) (l : List Nat), f < dF D → l.length + 2 * dL D f < 50 → (∀ Wd1 v, hP Wd b Wd1 (l ++ tJ D (dI D f) (dL D f)) → zk G X mL_hands n 0 0 165 [.ref (zro b), .ref k, .int (nI (l ++ tJ D (dI D f) (dL D f)).length), .int (nI i), .int (nI f), v] [] (zcm Wd1 a3)) →
      ∀ z q Wd1, q + z = dL D f → hP Wd b Wd1 (l ++ tJ D (dI D f) q) → zk G X mL_hands n 0 0 101 [.ref (zro b), .ref k, .int (nI (l ++ tJ D (dI D f) q).length), .int (nI i), .int (nI f), .int (nI (dI D f + q))] [] (zcm Wd1 a3) := by
    intro i f l hf hl K z
    obtain ⟨e8, e9, e10, e11⟩ := hA.2.2.1 f hf
    obtain ⟨g1, g2, g3, g4⟩ := hD.2.2.1 f hf
    have hzf : dI D f + dL D f ≤ dJ D := by
      have := zoff_mono (D := D) (show f + 1 ≤ dF D from hf)
      rw [hzJ] at this
      have e : zoff D (f + 1) = zoff D f + dL D f := rfl
      omega
    induction z with
    | zero =>
      intro q Wd1 hq hP1
      obtain rfl : q = dL D f := by omega
      refine zk_iload hX dL_hands_101 rfl ?_
      refine zk_aload_n hX dL_hands_103 rfl ?_
      refine zk_bipush (v := 10) hX dL_hands_104 (by decide) ?_
      refine zk_iconst (v := 4) hX dL_hands_106 (by decide) ?_
      refine zk_iload hX dL_hands_107 rfl ?_
      refine zk_imul hX dL_hands_109 ?_
      refine zk_iadd hX dL_hands_110 ?_
      refine zl_ialdE hX dL_hands_111 (nI_addE (nI_k 10 rfl) (nI_mulE (nI_k 4 rfl) rfl)) hk (by first | assumption | omega) ?_
      rw [e10]
      refine zk_aload_n hX dL_hands_112 rfl ?_
      refine zk_bipush (v := 11) hX dL_hands_113 (by decide) ?_
      refine zk_iconst (v := 4) hX dL_hands_115 (by decide) ?_
      refine zk_iload hX dL_hands_116 rfl ?_
      refine zk_imul hX dL_hands_118 ?_
      refine zk_iadd hX dL_hands_119 ?_
      refine zl_ialdE hX dL_hands_120 (nI_addE (nI_k 11 rfl) (nI_mulE (nI_k 4 rfl) rfl)) hk (by first | assumption | omega) ?_
      rw [e11]
      refine zk_iadd hX dL_hands_121 ?_
      refine zk_icmp_ge (tgt := 165) hX dL_hands_122 (by decide) (fun c122 => ?_) (fun c122 => ?_)
      rotate_left
      · exact absurd (by rw [nI_add]; exact nI_le (Nat.le_refl _) (by omega)) c122
      exact K _ _ hP1
    | succ z ih =>
      intro q Wd1 hq hP1
      obtain ⟨-, e41, e42⟩ := hA.2.2.2 (dI D f + q) (by omega)
      obtain ⟨-, hb2, ha2⟩ := hD.2.2.2.2.1 (dI D f + q) (by omega)
      have hw1 : zWf (Wd1 b) := hF_wf hP1.2.1 hw
      have hlen : (l ++ tJ D (dI D f) q).length = l.length + 2 * q := by rw [List.length_append, tJ_len]
      have eb : (48 : Int32) + nI (dB D (dI D f + q)) = nI (48 + dB D (dI D f + q)) := nI_addE rfl rfl
      have ea : (48 : Int32) + nI (dA D (dI D f + q)) = nI (48 + dA D (dI D f + q)) := nI_addE rfl rfl
      refine zk_iload hX dL_hands_101 rfl ?_
      refine zk_aload_n hX dL_hands_103 rfl ?_
      refine zk_bipush (v := 10) hX dL_hands_104 (by decide) ?_
      refine zk_iconst (v := 4) hX dL_hands_106 (by decide) ?_
      refine zk_iload hX dL_hands_107 rfl ?_
      refine zk_imul hX dL_hands_109 ?_
      refine zk_iadd hX dL_hands_110 ?_
      refine zl_ialdE hX dL_hands_111 (nI_addE (nI_k 10 rfl) (nI_mulE (nI_k 4 rfl) rfl)) hk (by first | assumption | omega) ?_
      rw [e10]
      refine zk_aload_n hX dL_hands_112 rfl ?_
      refine zk_bipush (v := 11) hX dL_hands_113 (by decide) ?_
      refine zk_iconst (v := 4) hX dL_hands_115 (by decide) ?_
      refine zk_iload hX dL_hands_116 rfl ?_
      refine zk_imul hX dL_hands_118 ?_
      refine zk_iadd hX dL_hands_119 ?_
      refine zl_ialdE hX dL_hands_120 (nI_addE (nI_k 11 rfl) (nI_mulE (nI_k 4 rfl) rfl)) hk (by first | assumption | omega) ?_
      rw [e11]
      refine zk_iadd hX dL_hands_121 ?_
      refine zk_icmp_ge (tgt := 165) hX dL_hands_122 (by decide) (fun c122 => ?_) (fun c122 => ?_)
      · exact absurd c122 (by rw [nI_add]; exact nI_ge (by omega) (by omega))
      refine zk_aload_n hX dL_hands_125 rfl ?_
      refine zk_aload_n hX dL_hands_126 rfl ?_
      refine zk_iload_n hX dL_hands_127 rfl ?_
      refine zk_bipush (v := 48) hX dL_hands_128 (by decide) ?_
      refine zk_aload_n hX dL_hands_130 rfl ?_
      refine zk_bipush (v := 41) hX dL_hands_131 (by decide) ?_
      refine zk_iconst (v := 3) hX dL_hands_133 (by decide) ?_
      refine zk_iload hX dL_hands_134 rfl ?_
      refine zk_imul hX dL_hands_136 ?_
      refine zk_iadd hX dL_hands_137 ?_
      refine zl_ialdE hX dL_hands_138 (nI_addE (nI_k 41 rfl) (nI_mulE (nI_k 3 rfl) rfl)) hk (by first | assumption | omega) ?_
      rw [e41]
      refine zk_iadd hX dL_hands_139 ?_
      rw [eb]
      refine zl_callS (M' := mL_put) (As := [_, _, _]) hX dL_hands_140 kcL_put mlL_14 smL_put rfl (s_L_put hn hw1 hP1.2.2 (by omega) (by omega)) rfl rfl (Nat.le_of_ble_eq_true rfl) rfl ⟨Nat.le_of_ble_eq_true rfl, Nat.le_of_ble_eq_true rfl⟩ (fun x Wd2 a2 p => ?_)
      obtain ⟨rfl, rfl, p1, p2, p3⟩ := p
      have hw2 := tF_wf p2 hw1
      have el : (l ++ tJ D (dI D f) q).length + 1 = ((l ++ tJ D (dI D f) q) ++ [48 + dB D (dI D f + q)]).length := len_1
      rw [el]
      refine zk_bipush (v := 48) hX dL_hands_143 (by decide) ?_
      refine zk_aload_n hX dL_hands_145 rfl ?_
      refine zk_bipush (v := 42) hX dL_hands_146 (by decide) ?_
      refine zk_iconst (v := 3) hX dL_hands_148 (by decide) ?_
      refine zk_iload hX dL_hands_149 rfl ?_
      refine zk_imul hX dL_hands_151 ?_
      refine zk_iadd hX dL_hands_152 ?_
      refine zl_ialdE hX dL_hands_153 (nI_addE (nI_k 42 rfl) (nI_mulE (nI_k 3 rfl) rfl)) hk (by first | assumption | omega) ?_
      rw [e42]
      refine zk_iadd hX dL_hands_154 ?_
      rw [ea]
      refine zl_callS (M' := mL_put) (As := [_, _, _]) hX dL_hands_155 kcL_put mlL_14 smL_put rfl (s_L_put hn hw2 p3 (by rw [List.length_append]; show _ + 1 < 60; omega) (by omega)) rfl rfl (Nat.le_of_ble_eq_true rfl) rfl ⟨Nat.le_of_ble_eq_true rfl, Nat.le_of_ble_eq_true rfl⟩ (fun x Wd3 a4 r => ?_)
      obtain ⟨rfl, rfl, r1, r2, r3⟩ := r
      refine zk_istore_n (lo' := [_, _, _, _, _, _]) hX dL_hands_158 (Nat.le_of_ble_eq_true rfl) rfl rfl ?_
      refine zk_iinc (lo' := [_, _, _, _, _, _]) hX dL_hands_159 rfl (by exact zinc _) (Nat.le_of_ble_eq_true rfl) rfl rfl ?_
      refine zk_goto (tgt := 101) hX dL_hands_162 (by decide) ?_
      have et : ((l ++ tJ D (dI D f) q) ++ [48 + dB D (dI D f + q)]) ++ [48 + dA D (dI D f + q)] = l ++ tJ D (dI D f) (q + 1) := by
        show _ = l ++ (tJ D (dI D f) q ++ [48 + dB D (dI D f + q), 48 + dA D (dI D f + q)])
        simp
      have el2 : ((l ++ tJ D (dI D f) q) ++ [48 + dB D (dI D f + q)]).length + 1 = (l ++ tJ D (dI D f) (q + 1)).length := by
        rw [← et, List.length_append (bs := [48 + dA D (dI D f + q)])]
        rfl
      rw [et] at r3
      rw [el2]
      exact ih (q + 1) Wd3 (by omega) (hP_t (hP_t hP1 p1 p2 p3) r1 r2 r3)
  have fl : ∀ (i : Nat) (l : List Nat), i < dW D → l.length < 30 → (∀ Wd1 v u, hP Wd b Wd1 (l ++ tH D i (dF D)) → zk G X mL_hands n 0 0 171 [.ref (zro b), .ref k, .int (nI (l ++ tH D i (dF D)).length), .int (nI i), v, u] [] (zcm Wd1 a3)) →
      ∀ z f Wd1 u, f + z = dF D → hP Wd b Wd1 (l ++ tH D i f) → zk G X mL_hands n 0 0 45 [.ref (zro b), .ref k, .int (nI (l ++ tH D i f).length), .int (nI i), .int (nI f), u] [] (zcm Wd1 a3) := by
    intro i l hi hl K z
    induction z with
    | zero =>
      intro f Wd1 u hf hP1
      obtain rfl : f = dF D := by omega
      refine zk_iload hX dL_hands_45 rfl ?_
      refine zk_aload_n hX dL_hands_47 rfl ?_
      refine zk_iconst (v := 3) hX dL_hands_48 (by decide) ?_
      refine zl_ialdE hX dL_hands_49 (nI_k 3 rfl) hk (by first | assumption | omega) ?_
      rw [hA.1.2.1]
      refine zk_icmp_ge (tgt := 171) hX dL_hands_50 (by decide) (fun c50 => ?_) (fun c50 => ?_)
      rotate_left
      · exact absurd (nI_le (Nat.le_refl _) (by omega)) c50
      exact K _ _ _ hP1
    | succ z ih =>
      intro f Wd1 u hf hP1
      obtain ⟨e8, e9, e10, e11⟩ := hA.2.2.1 f (by omega)
      obtain ⟨g1, g2, g3, g4⟩ := hD.2.2.1 f (by omega)
      have hL2 := hg.2.2.2.1 f (by omega)
      have hw1 : zWf (Wd1 b) := hF_wf hP1.2.1 hw
      have hHl := tH_len (D := D) i f
      have hzf := zoff_mono (D := D) (show f ≤ dF D by omega)
      rw [hzJ] at hzf
      have hlen : (l ++ tH D i f).length ≤ 42 := by
        rw [List.length_append]
        omega
      have es : (48 : Int32) + nI (dS D f) = nI (48 + dS D f) := nI_addE rfl rfl
      have next : ∀ Wd1 u, hP Wd b Wd1 (l ++ tH D i (f + 1)) → zk G X mL_hands n 0 0 165 [.ref (zro b), .ref k, .int (nI (l ++ tH D i (f + 1)).length), .int (nI i), .int (nI f), u] [] (zcm Wd1 a3) := by
        intro Wd1 u hP2
        have h0 := ih (f + 1) Wd1 u (by omega) hP2
        refine zk_iinc (lo' := [_, _, _, _, _, _]) hX dL_hands_165 rfl (by exact zinc _) (Nat.le_of_ble_eq_true rfl) rfl rfl ?_
        refine zk_goto (tgt := 45) hX dL_hands_168 (by decide) ?_
        exact h0
      by_cases q : dO D f = i
      · have e3 : tH D i (f + 1) = tH D i f ++ tFn D f := by
          show tH D i f ++ (if dO D f = i then tFn D f else []) = _
          rw [if_pos q]
        have e4 : ((l ++ tH D i f) ++ [102]) ++ [48 + dS D f] ++ tJ D (dI D f) (dL D f) = l ++ tH D i (f + 1) := by
          rw [e3]
          show _ = l ++ (tH D i f ++ (102 :: (48 + dS D f) :: tJ D (dI D f) (dL D f)))
          simp
        have hl2 : (((l ++ tH D i f) ++ [102]) ++ [48 + dS D f]).length = (l ++ tH D i f).length + 2 := by
          rw [List.length_append, List.length_append]
          rfl
        refine zk_iload hX dL_hands_45 rfl ?_
        refine zk_aload_n hX dL_hands_47 rfl ?_
        refine zk_iconst (v := 3) hX dL_hands_48 (by decide) ?_
        refine zl_ialdE hX dL_hands_49 (nI_k 3 rfl) hk (by first | assumption | omega) ?_
        rw [hA.1.2.1]
        refine zk_icmp_ge (tgt := 171) hX dL_hands_50 (by decide) (fun c50 => ?_) (fun c50 => ?_)
        · exact absurd c50 (nI_ge (by omega) (by omega))
        refine zk_aload_n hX dL_hands_53 rfl ?_
        refine zk_bipush (v := 8) hX dL_hands_54 (by decide) ?_
        refine zk_iconst (v := 4) hX dL_hands_56 (by decide) ?_
        refine zk_iload hX dL_hands_57 rfl ?_
        refine zk_imul hX dL_hands_59 ?_
        refine zk_iadd hX dL_hands_60 ?_
        refine zl_ialdE hX dL_hands_61 (nI_addE (nI_k 8 rfl) (nI_mulE (nI_k 4 rfl) rfl)) hk (by first | assumption | omega) ?_
        rw [e8, q]
        refine zk_iload_n hX dL_hands_62 rfl ?_
        refine zk_icmp_ne (tgt := 165) hX dL_hands_63 (by decide) (fun c63 => ?_) (fun c63 => ?_)
        · exact absurd rfl c63
        refine zk_aload_n hX dL_hands_66 rfl ?_
        refine zk_aload_n hX dL_hands_67 rfl ?_
        refine zk_iload_n hX dL_hands_68 rfl ?_
        refine zk_bipush (v := 102) hX dL_hands_69 (by decide) ?_
        refine zl_callS (M' := mL_put) (As := [_, _, _]) hX dL_hands_71 kcL_put mlL_14 smL_put rfl (s_L_put (c := 102) hn hw1 hP1.2.2 (by omega) (by decide)) rfl rfl (Nat.le_of_ble_eq_true rfl) rfl ⟨Nat.le_of_ble_eq_true rfl, Nat.le_of_ble_eq_true rfl⟩ (fun x Wd2 a2 p => ?_)
        obtain ⟨rfl, rfl, p1, p2, p3⟩ := p
        have hw2 := tF_wf p2 hw1
        have el : (l ++ tH D i f).length + 1 = ((l ++ tH D i f) ++ [102]).length := len_1
        rw [el]
        refine zk_bipush (v := 48) hX dL_hands_74 (by decide) ?_
        refine zk_aload_n hX dL_hands_76 rfl ?_
        refine zk_bipush (v := 9) hX dL_hands_77 (by decide) ?_
        refine zk_iconst (v := 4) hX dL_hands_79 (by decide) ?_
        refine zk_iload hX dL_hands_80 rfl ?_
        refine zk_imul hX dL_hands_82 ?_
        refine zk_iadd hX dL_hands_83 ?_
        refine zl_ialdE hX dL_hands_84 (nI_addE (nI_k 9 rfl) (nI_mulE (nI_k 4 rfl) rfl)) hk (by first | assumption | omega) ?_
        rw [e9]
        refine zk_iadd hX dL_hands_85 ?_
        rw [es]
        refine zl_callS (M' := mL_put) (As := [_, _, _]) hX dL_hands_86 kcL_put mlL_14 smL_put rfl (s_L_put hn hw2 p3 (by rw [List.length_append]; show _ + 1 < 60; omega) (by omega)) rfl rfl (Nat.le_of_ble_eq_true rfl) rfl ⟨Nat.le_of_ble_eq_true rfl, Nat.le_of_ble_eq_true rfl⟩ (fun x Wd3 a4 r => ?_)
        obtain ⟨rfl, rfl, r1, r2, r3⟩ := r
        have el2 : ((l ++ tH D i f) ++ [102]).length + 1 = (((l ++ tH D i f) ++ [102]) ++ [48 + dS D f]).length := len_1
        rw [el2]
        refine zk_istore_n (lo' := [_, _, _, _, _, _]) hX dL_hands_89 (Nat.le_of_ble_eq_true rfl) rfl rfl ?_
        refine zk_aload_n hX dL_hands_90 rfl ?_
        refine zk_bipush (v := 10) hX dL_hands_91 (by decide) ?_
        refine zk_iconst (v := 4) hX dL_hands_93 (by decide) ?_
        refine zk_iload hX dL_hands_94 rfl ?_
        refine zk_imul hX dL_hands_96 ?_
        refine zk_iadd hX dL_hands_97 ?_
        refine zl_ialdE hX dL_hands_98 (nI_addE (nI_k 10 rfl) (nI_mulE (nI_k 4 rfl) rfl)) hk (by first | assumption | omega) ?_
        rw [e10]
        refine zk_istore (lo' := [_, _, _, _, _, _]) hX dL_hands_99 (Nat.le_of_ble_eq_true rfl) rfl rfl ?_
        have h9 := jl i f (((l ++ tH D i f) ++ [102]) ++ [48 + dS D f]) (by omega) (by omega) (fun Wd4 v h => by rw [e4] at h ⊢; exact next Wd4 v h) (dL D f) 0 Wd3 (by omega) (by
          show hP Wd b Wd3 (_ ++ [])
          rw [List.append_nil]
          exact hP_t (hP_t hP1 p1 p2 p3) r1 r2 r3)
        rw [show tJ D (dI D f) 0 = [] from rfl, List.append_nil, Nat.add_zero] at h9
        exact h9
      · have e3 : tH D i (f + 1) = tH D i f := by
          show tH D i f ++ (if dO D f = i then tFn D f else []) = _
          rw [if_neg q, List.append_nil]
        have hne : ¬ nI (dO D f) = nI i := fun z => q (nI_inj (by omega) (by omega) z)
        refine zk_iload hX dL_hands_45 rfl ?_
        refine zk_aload_n hX dL_hands_47 rfl ?_
        refine zk_iconst (v := 3) hX dL_hands_48 (by decide) ?_
        refine zl_ialdE hX dL_hands_49 (nI_k 3 rfl) hk (by first | assumption | omega) ?_
        rw [hA.1.2.1]
        refine zk_icmp_ge (tgt := 171) hX dL_hands_50 (by decide) (fun c50 => ?_) (fun c50 => ?_)
        · exact absurd c50 (nI_ge (by omega) (by omega))
        refine zk_aload_n hX dL_hands_53 rfl ?_
        refine zk_bipush (v := 8) hX dL_hands_54 (by decide) ?_
        refine zk_iconst (v := 4) hX dL_hands_56 (by decide) ?_
        refine zk_iload hX dL_hands_57 rfl ?_
        refine zk_imul hX dL_hands_59 ?_
        refine zk_iadd hX dL_hands_60 ?_
        refine zl_ialdE hX dL_hands_61 (nI_addE (nI_k 8 rfl) (nI_mulE (nI_k 4 rfl) rfl)) hk (by first | assumption | omega) ?_
        rw [e8]
        refine zk_iload_n hX dL_hands_62 rfl ?_
        refine zk_icmp_ne (tgt := 165) hX dL_hands_63 (by decide) (fun c63 => ?_) (fun c63 => ?_)
        rotate_left
        · exact absurd c63 hne
        rw [← e3]
        exact next Wd1 _ (by rw [e3]; exact hP1)
  have il : ∀ z i Wd1 u v, i + z = dW D → hP Wd b Wd1 (tA D i) → zk G X mL_hands n 0 0 18 [.ref (zro b), .ref k, .int (nI (tA D i).length), .int (nI i), v, u] [] (zcm Wd1 a3) := by
    intro z
    induction z with
    | zero =>
      intro i Wd1 u v hi hP1
      obtain rfl : i = dW D := by omega
      have hw1 : zWf (Wd1 b) := hF_wf hP1.2.1 hw
      have hlen := tA_len hg (dW D)
      have hpos : 0 < (tA D (dW D)).length := by
        have h1 := hg.2.1.1
        obtain ⟨m, hm⟩ : ∃ m, dW D = m + 1 := ⟨dW D - 1, by omega⟩
        rw [hm]
        show 0 < (tA D m ++ (104 :: _)).length
        rw [List.length_append]
        exact Nat.lt_of_lt_of_le (Nat.succ_pos _) (Nat.le_add_left _ _)
      have hS : (Wd1 b).1 (17 + 2 * 3) 0 = nI 60 := hP1.2.2.1
      have hTx : Tx ((Wd1 b).1 (17 + 2 * 3 + 1)) (tA D (dW D)) := hP1.2.2.2
      obtain ⟨r9, eq9⟩ := rAll_T hg hTx
      have h114 : (Wd1 b).1 114 2 = nI 0 := by rw [hP1.2.1.1 114 (by decide) (by decide)]; exact h4
      refine zk_iload_n hX dL_hands_18 rfl ?_
      refine zk_aload_n hX dL_hands_19 rfl ?_
      refine zk_iconst (v := 0) hX dL_hands_20 (by decide) ?_
      refine zl_ialdE hX dL_hands_21 (nI_k 0 rfl) hk (by first | assumption | omega) ?_
      rw [hA.1.1]
      refine zk_icmp_ge (tgt := 177) hX dL_hands_22 (by decide) (fun c22 => ?_) (fun c22 => ?_)
      rotate_left
      · exact absurd (nI_le (Nat.le_refl _) (by omega)) c22
      refine zk_iload_n hX dL_hands_177 rfl ?_
      refine zk_if_le (tgt := 206) hX dL_hands_178 (by decide) (fun c178 => ?_) (fun c178 => ?_)
      · exact absurd c178 (fun q => absurd (nI_lt (a := 0) (b := (tA D (dW D)).length) hpos (by omega)) (Int32.not_lt.mpr q))
      refine zk_aload_n hX dL_hands_181 rfl ?_
      refine zk_iconst (v := 3) hX dL_hands_182 (by decide) ?_
      refine zl_callV (M' := mX11_fault) (As := [_]) (b := b) hX hu hn2 dL_hands_183 kcX11_fault mlL_30 viX11_fault rfl (s_X11_fault (G := zGb G b) (t := 3) (m := 60) hw1 (by decide) (by decide) hS) rfl rfl rfl (Nat.le_of_ble_eq_true rfl) rfl ⟨Nat.le_of_ble_eq_true rfl, Nat.le_of_ble_eq_true rfl⟩ (fun x w2 p => ?_)
      obtain ⟨p1, p2, p3, rfl⟩ := p
      have et : w2.1 (17 + 2 * 3 + 1) = (Wd1 b).1 (17 + 2 * 3 + 1) := p2 24 (by decide)
      have hS2 : (zub Wd1 b w2 b).1 (17 + 2 * 3) 0 = nI 60 := by rw [zub_s, p2 23 (by decide)]; exact hS
      have h1142 : (zub Wd1 b w2 b).1 114 2 = nI 0 := by rw [zub_s, p2 114 (by decide)]; exact h114
      rw [r9]
      refine zk_bipush (v := -9) hX dL_hands_186 (by decide) ?_
      refine zk_icmp_ne (tgt := 206) hX dL_hands_188 (by decide) (fun c188 => ?_) (fun c188 => ?_)
      · exact absurd rfl c188
      refine zk_aload_n hX dL_hands_191 rfl ?_
      refine zk_iconst (v := 3) hX dL_hands_192 (by decide) ?_
      refine zl_callV (M' := mX11_hands) (As := [_]) (b := b) hX hu hn2 dL_hands_193 kcX11_hands mlL_34 viX11_hands rfl (s_X11_hands (G := zGb G b) (t := 3) (m := 60) (c := 0) (show zWf (zub Wd1 b w2 b) from by rw [zub_s]; exact p1) (by decide) (by decide) hS2 (by decide) h1142 (fun q hq => absurd hq (Nat.not_lt_zero _))) rfl rfl rfl (Nat.le_of_ble_eq_true rfl) rfl ⟨Nat.le_of_ble_eq_true rfl, Nat.le_of_ble_eq_true rfl⟩ (fun x w3 r => ?_)
      obtain ⟨r1, r2⟩ := r
      rw [zub_s, et] at r2
      rcases r2 with ⟨r2, -⟩ | ⟨-, rfl, r3, r4, r5, r6, r7, r8⟩
      · exact absurd r9 r2
      rw [eq9.1.2.2]
      refine zk_aload_n hX dL_hands_196 rfl ?_
      refine zk_iconst (v := 4) hX dL_hands_197 (by decide) ?_
      refine zl_ialdE hX dL_hands_198 (nI_k 4 rfl) hk (by first | assumption | omega) ?_
      rw [hA.1.2.2]
      refine zk_icmp_ne (tgt := 206) hX dL_hands_199 (by decide) (fun c199 => ?_) (fun c199 => ?_)
      · exact absurd rfl c199
      refine zk_iconst (v := 1) hX dL_hands_202 (by decide) ?_
      refine zk_goto (tgt := 207) hX dL_hands_203 (by decide) ?_
      refine zk_zret hX hE rfl ⟨rfl, rfl⟩ dL_hands_207 rfl ⟨_, rfl, _, _, rfl, ?_⟩
      refine ⟨rfl, rfl, zot_t hP1.1 (zot_t zot_u zot_u), ?_⟩
      rw [zub_s]
      refine ⟨r1, ⟨_, eq9, rAll_ok _ _ _ dNil_ok, r3, r4⟩, r5.1, ⟨r6.1, fun i hi => ?_⟩, fun c q1 q2 q3 => ?_, fun c q => ?_⟩
      · rw [r6.2 i hi, p2 0 (by decide), hP1.2.1.1 0 (by decide) (by decide)]
      · rw [r7 c q1, p2 c (fun z => q1 (by revert z; simp only [oHd, List.mem_cons, List.not_mem_nil, or_false]; intro z; omega)), hP1.2.1.1 c q2 q3]
      · rw [r8 c q, p3, hP1.2.1.2]
    | succ z ih =>
      intro i Wd1 u v hi hP1
      have hw1 : zWf (Wd1 b) := hF_wf hP1.2.1 hw
      have hlen := tA_len hg i
      have e1 := hA.2.1 i (by omega)
      obtain ⟨⟨w1, w2⟩, -⟩ := hg.2.2.1 i (by omega)
      have et : ((tA D i ++ [104]) ++ [48 + dw D i / 10, 48 + dw D i % 10]) ++ tH D i (dF D) = tA D (i + 1) := by
        show _ = tA D i ++ (104 :: (48 + dw D i / 10) :: (48 + dw D i % 10) :: tH D i (dF D))
        simp
      have next : ∀ Wd1 u v, hP Wd b Wd1 (tA D (i + 1)) → zk G X mL_hands n 0 0 171 [.ref (zro b), .ref k, .int (nI (tA D (i + 1)).length), .int (nI i), u, v] [] (zcm Wd1 a3) := by
        intro Wd1 u v hP2
        have h0 := ih (i + 1) Wd1 v u (by omega) hP2
        refine zk_iinc (lo' := [_, _, _, _, _, _]) hX dL_hands_171 rfl (by exact zinc _) (Nat.le_of_ble_eq_true rfl) rfl rfl ?_
        refine zk_goto (tgt := 18) hX dL_hands_174 (by decide) ?_
        exact h0
      refine zk_iload_n hX dL_hands_18 rfl ?_
      refine zk_aload_n hX dL_hands_19 rfl ?_
      refine zk_iconst (v := 0) hX dL_hands_20 (by decide) ?_
      refine zl_ialdE hX dL_hands_21 (nI_k 0 rfl) hk (by first | assumption | omega) ?_
      rw [hA.1.1]
      refine zk_icmp_ge (tgt := 177) hX dL_hands_22 (by decide) (fun c22 => ?_) (fun c22 => ?_)
      · exact absurd c22 (nI_ge (by omega) (by omega))
      refine zk_aload_n hX dL_hands_25 rfl ?_
      refine zk_aload_n hX dL_hands_26 rfl ?_
      refine zk_iload_n hX dL_hands_27 rfl ?_
      refine zk_bipush (v := 104) hX dL_hands_28 (by decide) ?_
      refine zl_callS (M' := mL_put) (As := [_, _, _]) hX dL_hands_30 kcL_put mlL_14 smL_put rfl (s_L_put (c := 104) hn hw1 hP1.2.2 (by omega) (by decide)) rfl rfl (Nat.le_of_ble_eq_true rfl) rfl ⟨Nat.le_of_ble_eq_true rfl, Nat.le_of_ble_eq_true rfl⟩ (fun x Wd2 a2 p => ?_)
      obtain ⟨rfl, rfl, p1, p2, p3⟩ := p
      have hw2 := tF_wf p2 hw1
      have el : (tA D i).length + 1 = (tA D i ++ [104]).length := len_1
      rw [el]
      refine zk_aload_n hX dL_hands_33 rfl ?_
      refine zk_iconst (v := 1) hX dL_hands_34 (by decide) ?_
      refine zk_iload_n hX dL_hands_35 rfl ?_
      refine zk_iadd hX dL_hands_36 ?_
      refine zl_ialdE hX dL_hands_37 (nI_addE (nI_k 1 rfl) rfl) hk (by first | assumption | omega) ?_
      rw [e1]
      refine zl_callS (M' := mL_number) (As := [_, _, _]) hX dL_hands_38 kcL_number mlL_27 smL_number rfl (s_L_number hn hw2 p3 (by rw [List.length_append]; show _ + 1 < 50; omega) ⟨by omega, by omega⟩) rfl rfl (Nat.le_of_ble_eq_true rfl) rfl ⟨Nat.le_of_ble_eq_true rfl, Nat.le_of_ble_eq_true rfl⟩ (fun x Wd3 a4 r => ?_)
      obtain ⟨rfl, rfl, r1, r2, r3⟩ := r
      have el2 : (tA D i ++ [104]).length + 2 = ((tA D i ++ [104]) ++ [48 + dw D i / 10, 48 + dw D i % 10]).length := len_2
      rw [el2]
      refine zk_istore_n (lo' := [_, _, _, _, _, _]) hX dL_hands_41 (Nat.le_of_ble_eq_true rfl) rfl rfl ?_
      refine zk_iconst (v := 0) hX dL_hands_42 (by decide) ?_
      refine zk_istore (lo' := [_, _, _, _, _, _]) hX dL_hands_43 (Nat.le_of_ble_eq_true rfl) rfl rfl ?_
      have h9 := fl i ((tA D i ++ [104]) ++ [48 + dw D i / 10, 48 + dw D i % 10]) (by omega) (by rw [← el2, ← el]; omega) (fun Wd4 v u h => by rw [et] at h ⊢; exact next Wd4 v u h) (dF D) 0 Wd3 u (by omega) (by
        show hP Wd b Wd3 (_ ++ [])
        rw [List.append_nil]
        exact hP_t (hP_t hP1 p1 p2 p3) r1 r2 r3)
      rw [show tH D i 0 = [] from rfl, List.append_nil] at h9
      exact h9
  refine zk_aload_n hX dL_hands_0 rfl ?_
  refine zk_iconst (v := 3) hX dL_hands_1 (by decide) ?_
  refine zk_bipush (v := 60) hX dL_hands_2 (by decide) ?_
  refine zl_callV (M' := mX11_text) (As := [_, _]) (b := b) hX hu hn2 dL_hands_4 kcX11_text mlL_23 viX11_text rfl hR rfl rfl rfl (Nat.le_of_ble_eq_true rfl) rfl ⟨Nat.le_of_ble_eq_true rfl, Nat.le_of_ble_eq_true rfl⟩ (fun x w1 q => ?_)
  obtain ⟨rfl, rfl⟩ := q
  refine zk_bipush (v := 60) hX dL_hands_7 (by decide) ?_
  refine zk_icmp_eq (tgt := 14) hX dL_hands_9 (by decide) (fun c9 => ?_) (fun c9 => ?_)
  rotate_left
  · exact absurd rfl c9
  refine zk_iconst (v := 0) hX dL_hands_14 (by decide) ?_
  refine zk_istore_n (lo' := [_, _, _, _, _, _]) hX dL_hands_15 (Nat.le_of_ble_eq_true rfl) rfl rfl ?_
  refine zk_iconst (v := 0) hX dL_hands_16 (by decide) ?_
  refine zk_istore_n (lo' := [_, _, _, _, _, _]) hX dL_hands_17 (Nat.le_of_ble_eq_true rfl) rfl rfl ?_
  refine il (dW D) 0 _ _ _ (by omega) ⟨zot_u, ?_, ?_⟩
  · rw [zub_s]
    refine ⟨fun c q1 q2 => ?_, rfl⟩
    funext i
    show (if c = 24 ∧ _ then _ else _) = _
    rw [if_neg (fun q => q2 q.1), zsi_1, if_neg (fun q => q1 q.1)]
  · rw [zub_s]
    refine ⟨?_, fun i hi => ?_⟩
    · show (zfill (zsi (Wd b) 23 0 60) 24 60 32).1 23 0 = nI 60
      first | (simp [zfill, zsi]; done) | (simp [zfill, zsi]; rfl)
    · show (zfill (zsi (Wd b) 23 0 60) 24 60 32).1 24 i = nI 32
      first | (simp [zfill, zsi, hi]; done) | (simp [zfill, zsi, hi]; rfl)
end ZH
