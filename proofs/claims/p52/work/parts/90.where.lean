/-- lamp number i -/
def lz (i : Nat) : Nat := 1 + i / 49
def lu (i : Nat) : Nat := i / 7 % 7
def lv (i : Nat) : Nat := i % 7
theorem l_ok {i : Nat} (h : i < 98) : zlok (lz i) (lu i) (lv i) := by
  unfold zlok lz lu lv
  omega
def lc (z u v : Nat) : Nat := 100 * z + 10 * u + v
theorem zcode_lc (z u v : Nat) : zcode (nI z) (nI u - 3) (nI v - 3) = nI (lc z u v) := by
  unfold zcode lc
  rw [Int32.sub_add_cancel, Int32.add_assoc, Int32.sub_add_cancel, show (100 : Int32) = nI 100 from rfl, show (10 : Int32) = nI 10 from rfl, nI_mul, nI_mul, nI_add, nI_add]
theorem zLm_n {w : zW} {a : Nat} (z u v : Nat) : zLm (zbecome w a (nI z) (nI u - 3) (nI v - 3)) a z u v := by
  unfold zLm zbecome
  refine ⟨?_, ?_, ?_⟩
  · rw [zsi_1, if_neg (by omega), zsi_1, if_neg (by omega), zsi_1, if_pos ⟨rfl, rfl⟩]
  · rw [zsi_1, if_neg (by omega), zsi_1, if_pos ⟨rfl, rfl⟩]
  · rw [zsi_1, if_pos ⟨rfl, rfl⟩]
theorem zbecome_fr {A B F : List Nat} {w : zW} {a : Nat} {x y t : Int32} (h : a ∈ A) (h2 : a ≠ 166) : zFr A B F w (zbecome w a x y t) := zFr_t (zFr_i h h2) (zFr_t (zFr_i h h2) (zFr_i h h2))
theorem s_X3_becomeNumber {G : zG} {w : zW} {a i : Nat} (hLp : zLp a) (hi : i < 98) : zEv G mX3_becomeNumber [.ref a, .int (nI i)] w (zbecome w a (nI (lz i)) (nI (lu i) - 3) (nI (lv i) - 3)) := by
  refine zC_of (lo := [_, _]) kcX3_becomeNumber (Nat.le_of_ble_eq_true rfl) rfl (fun X hX hE => ?_)
  refine zk_aload_n hX dX3_becomeNumber_0 rfl ?_
  refine zk_iconst (v := 1) hX dX3_becomeNumber_1 (by decide) ?_
  refine zk_iload_n hX dX3_becomeNumber_2 rfl ?_
  refine zk_bipush (v := 49) hX dX3_becomeNumber_3 (by decide) ?_
  refine zk_idiv hX dX3_becomeNumber_5 (by decide) ?_
  rw [show (49 : Int32) = nI 49 from rfl, nI_div (by omega) (by decide), show (1 : Int32) = nI 1 from rfl]
  refine zk_iadd hX dX3_becomeNumber_6 ?_
  rw [nI_add]
  refine zk_iload_n hX dX3_becomeNumber_7 rfl ?_
  refine zk_bipush (v := 7) hX dX3_becomeNumber_8 (by decide) ?_
  refine zk_idiv hX dX3_becomeNumber_10 (by decide) ?_
  refine zk_bipush (v := 7) hX dX3_becomeNumber_11 (by decide) ?_
  refine zk_irem hX dX3_becomeNumber_13 (by decide) ?_
  rw [show (7 : Int32) = nI 7 from rfl, nI_div (by omega) (by decide), nI_rem (by omega) (by decide)]
  refine zk_iconst (v := 3) hX dX3_becomeNumber_14 (by decide) ?_
  refine zk_isub hX dX3_becomeNumber_15 ?_
  refine zk_iload_n hX dX3_becomeNumber_16 rfl ?_
  refine zk_bipush (v := 7) hX dX3_becomeNumber_17 (by decide) ?_
  refine zk_irem hX dX3_becomeNumber_19 (by decide) ?_
  rw [show (7 : Int32) = nI 7 from rfl, nI_rem (by omega) (by decide)]
  refine zk_iconst (v := 3) hX dX3_becomeNumber_20 (by decide) ?_
  refine zk_isub hX dX3_becomeNumber_21 ?_
  refine zk_V3v hX dX3_becomeNumber_22 kcX3_become mlX3_21 viX3_become rfl (zLp_k hLp) (zLp_z hLp) (s_X3_become hLp _ _ _) (Nat.le_of_ble_eq_true rfl) rfl ?_
  refine zk_vret hX hE rfl ⟨rfl, rfl⟩ dX3_becomeNumber_25 ⟨rfl, ?_⟩
  rfl
def zshS (z u v : Nat) (S : zS) (kd : Int32) (C : zS) : zS := if kd = 5 then zun (zthr z u v S) C else zthr z u v S
/-- by how much lamp i is off -/
def lF (S : zS) (kd : Int32) (C M Y : zS) (i : Nat) : Nat := zofB M Y (zshS (lz i) (lu i) (lv i) S kd C)
theorem lF_le {S : zS} {kd : Int32} {C M Y : zS} {i : Nat} : lF S kd C M Y i ≤ 240 := zofB_le _ _ _
def lB : Option Nat → Int32
  | none => 0
  | some b => nI (lc (lz b) (lu b) (lv b))
theorem s_X11_where_bad {G : zG} {w : zW} (hw : zWf w) (p k : Int32) (h : ¬ ((0 ≤ p ∧ p < w.1 0 10) ∧ (0 ≤ k ∧ k < 6))) : zEi G mX11_where [.ref 0, .int p, .int k] w (-1) w := by
  refine zC_of (lo := [_, _, _, _, _, _, _]) kcX11_where (Nat.le_of_ble_eq_true rfl) rfl (fun X hX hE => ?_)
  refine zk_aload_n hX dX11_where_0 rfl ?_
  refine zk_iload_n hX dX11_where_1 rfl ?_
  refine zk_V1i hX dX11_where_2 kcX11_isPose mlX11_227 viX11_isPose rfl k_0 z_0 (s_X11_isPose hw _) (Nat.le_of_ble_eq_true rfl) rfl ?_
  refine zk_if_eqB (tgt := 15) hX dX11_where_5 (by decide) (fun c5 => ?_) (fun c5 => ?_)
  · refine zk_iconst (v := -1) hX dX11_where_15 (by decide) ?_
    refine zk_iret hX hE rfl ⟨rfl, rfl⟩ dX11_where_16 ⟨_, rfl, ?_⟩
    exact ⟨rfl, rfl⟩
  · refine zk_iload_n hX dX11_where_8 rfl ?_
    refine zk_S1i hX dX11_where_9 kcX11_isBeast mlX11_272 smX11_isBeast rfl (s_X11_isBeast _) (Nat.le_of_ble_eq_true rfl) rfl ?_
    refine zk_if_neB (tgt := 17) hX dX11_where_12 (by decide) (fun c12 => ?_) (fun c12 => ?_)
    · exact absurd c12 (fun q => h ⟨by first | exact c5 | exact Decidable.not_not.mp c5, q⟩)
    refine zk_iconst (v := -1) hX dX11_where_15 (by decide) ?_
    refine zk_iret hX hE rfl ⟨rfl, rfl⟩ dX11_where_16 ⟨_, rfl, ?_⟩
    exact ⟨rfl, rfl⟩
theorem s_X11_where_m {G : zG} {w : zW} {n p k : Nat} (hw : zWf w) (hn : n ≤ 12) (hP : w.1 0 10 = nI n) (hp : p < n) (hk : k < 6) (ht : w.1 (96 + 3 * k) 3 = 0) : zEi G mX11_where [.ref 0, .int (nI p), .int (nI k)] w (-3) (zfind w 1) := by
  refine zC_of (lo := [_, _, _, _, _, _, _]) kcX11_where (Nat.le_of_ble_eq_true rfl) rfl (fun X hX hE => ?_)
  refine zk_aload_n hX dX11_where_0 rfl ?_
  refine zk_iload_n hX dX11_where_1 rfl ?_
  refine zk_V1i hX dX11_where_2 kcX11_isPose mlX11_227 viX11_isPose rfl k_0 z_0 (s_X11_isPose hw _) (Nat.le_of_ble_eq_true rfl) rfl ?_
  refine zk_if_eqB (tgt := 15) hX dX11_where_5 (by decide) (fun c5 => ?_) (fun c5 => ?_)
  · exact absurd c5 (not_not_intro (by rw [hP]; exact ⟨nI_pos' (by omega), nI_lt hp (by omega)⟩))
  refine zk_iload_n hX dX11_where_8 rfl ?_
  refine zk_S1i hX dX11_where_9 kcX11_isBeast mlX11_272 smX11_isBeast rfl (s_X11_isBeast _) (Nat.le_of_ble_eq_true rfl) rfl ?_
  refine zk_if_neB (tgt := 17) hX dX11_where_12 (by decide) (fun c12 => ?_) (fun c12 => ?_)
  rotate_left
  · exact absurd (zrlt hk) c12
  refine zk_aload_n hX dX11_where_17 rfl ?_
  refine zk_getR hX dX11_where_18 flX11_68 k_0 z_0 (hw _ _ (by decide) |>.trans r_0_11) ?_
  refine zk_iload_n hX dX11_where_21 rfl ?_
  refine zk_beasts hX hw dX11_where_22 rfl (by first | assumption | omega) ?_
  refine zk_getI hX dX11_where_23 flX11_284 (zBek (by first | assumption | omega)) (zBez _ (by first | assumption | omega)).1 ?_
  refine zk_if_ne (tgt := 38) hX dX11_where_26 (by decide) (fun c26 => ?_) (fun c26 => ?_)
  · exact absurd c26 (fun q => q ht)
  refine zk_aload_n hX dX11_where_29 rfl ?_
  refine zk_getR hX dX11_where_30 flX11_12 k_0 z_0 (hw _ _ (by decide) |>.trans r_0_0) ?_
  refine zk_iconst (v := 1) hX dX11_where_33 (by decide) ?_
  refine zk_V1i hX dX11_where_34 kcX9_find mlX11_111 viX9_find rfl k_1 z_1 (s_X9_find hw _ (by decide)) (Nat.le_of_ble_eq_true rfl) rfl ?_
  refine zk_iret hX hE rfl ⟨rfl, rfl⟩ dX11_where_37 ⟨_, rfl, ?_⟩
  exact ⟨rfl, rfl⟩
theorem s_X11_where {G : zG} {w : zW} {n p k : Nat} {S C M Y : zS} (hw : zWf w) (hn : n ≤ 12) (hP : w.1 0 10 = nI n) (hp : p < n) (hk : k < 6) (ht : ¬ w.1 (96 + 3 * k) 3 = 0) (hS : zHas w (49 + 4 * p) S) (hC : zHas w (50 + 4 * p) C) (hB : cBe w k M Y) :
    zCi G mX11_where [.ref 0, .int (nI p), .int (nI k)] w (fun a w' => a = zoe ((zbst (fun _ => true) (lF S (w.1 (47 + 4 * p) 3) C M Y) 98).map (lF S (w.1 (47 + 4 * p) 3) C M Y)) ∧ zFr [1, 45] [163] [] w w' ∧ (∀ i, i ≠ 0 → w'.1 1 i = w.1 1 i) ∧ w'.1 1 0 = lB (zbst (fun _ => true) (lF S (w.1 (47 + 4 * p) 3) C M Y) 98)) := by
  have hC3 : zCe 163 := ⟨by decide, by decide +kernel⟩
  generalize eF : lF S (w.1 (47 + 4 * p) 3) C M Y = F
  have hF240 : ∀ i, F i ≤ 240 := fun i => by rw [← eF]; exact lF_le
  refine zC_of (lo := [_, _, _, _, _, _, _]) kcX11_where (Nat.le_of_ble_eq_true rfl) rfl (fun X hX hE => ?_)
  have loop : ∀ m i w1 (a6 : Value), i + m = 98 → zFr [45] [163] [] w w1 → zk0 G X mX11_where 47 [.ref 0, .int (nI p), .int (nI k), .int (zoe ((zbst (fun _ => true) F i).map F)), .int (lB (zbst (fun _ => true) F i)), .int (nI i), a6] [] w1 := by
    intro m
    induction m with
    | zero =>
      intro i w1 a6 hi hFr
      obtain rfl : i = 98 := by omega
      have hw1 := zFr_wf hFr hw
      refine zk_iload hX dX11_where_47 rfl ?_
      refine zk_bipush (v := 98) hX dX11_where_49 (by decide) ?_
      refine zk_icmp_ge (tgt := 135) hX dX11_where_51 (by decide) (fun c51 => ?_) (fun c51 => ?_)
      rotate_left
      · exact absurd (by decide) c51
      refine zk_aload_n hX dX11_where_135 rfl ?_
      refine zk_getR hX dX11_where_136 flX11_12 k_0 z_0 (hw1 _ _ (by decide) |>.trans r_0_0) ?_
      refine zk_iload hX dX11_where_139 rfl ?_
      refine zk_V1i hX dX11_where_141 kcX9_tell mlX11_132 viX9_tell rfl k_1 z_1 (s_X9_tell _) (Nat.le_of_ble_eq_true rfl) rfl ?_
      refine zk_pop hX dX11_where_144 rfl ?_
      refine zk_iload_n hX dX11_where_145 rfl ?_
      refine zk_iret hX hE rfl ⟨rfl, rfl⟩ dX11_where_146 ⟨_, rfl, ?_⟩
      refine ⟨rfl, zFr_t (zFr_s hFr (by decide)) (zFr_i (by decide) (by decide)), fun i hi => ?_, by rw [zsi_1, if_pos ⟨rfl, rfl⟩]⟩
      rw [zsi_1, if_neg (fun q => hi q.2), hFr.2.1 1 (by decide) (by decide)]
    | succ m ih =>
      intro i w1 a6 hi hFr
      have hw1 := zFr_wf hFr hw
      have h9 := fun w2 a6 => ih (i + 1) w2 a6 (by omega)
      generalize eL : zbecome w1 45 (nI (lz i)) (nI (lu i) - 3) (nI (lv i) - 3) = w2
      have hL2 : zLm w2 45 (lz i) (lu i) (lv i) := by rw [← eL]; exact zLm_n _ _ _
      have hF2 : zFr [45] [163] [] w w2 := by rw [← eL]; exact zFr_t hFr (zbecome_fr (by decide) (by decide))
      have hw2 := zFr_wf hF2 hw
      have cb : zEv G mX3_becomeNumber [.ref 45, .int (nI i)] w1 w2 := by rw [← eL]; exact s_X3_becomeNumber (Or.inr rfl) (by omega)
      have cs := s_X5_shadow (G := G) hw2 (show p < 12 by omega) (Or.inr rfl) hC3 (by omega) (zHas_o hS (hF2.2.2.1 _ (by simp; omega))) (zHas_o hC (hF2.2.2.1 _ (by simp; omega))) hL2 (l_ok (by omega))
      rw [hF2.2.1 (47 + 4 * p) (by simp; omega) (by omega)] at cs
      generalize eZ : (if w.1 (47 + 4 * p) 3 = 5 then zun (zthr (lz i) (lu i) (lv i) S) C else zthr (lz i) (lu i) (lv i) S) = Z at cs
      have hw3 : zWf (zsetS w2 163 Z) := zWf_of hw2 rfl
      have hZ : zHas (zsetS w2 163 Z) 163 Z := zsetS_has
      have hB3 : cBe (zsetS w2 163 Z) k M Y := ⟨zHas_o hB.1 ((zsetS_2 (by omega)).trans (hF2.2.2.1 _ (by simp; omega))), zHas_o hB.2 ((zsetS_2 (by omega)).trans (hF2.2.2.1 _ (by simp; omega)))⟩
      have hF3 : zFr [45] [163] [] w (zsetS w2 163 Z) := zFr_t hF2 (zFr_S (by decide))
      have eo : zofB M Y Z = F i := by rw [← eF, ← eZ]; rfl
      have ec : zcode ((zsetS w2 163 Z).1 45 0) ((zsetS w2 163 Z).1 45 1) ((zsetS w2 163 Z).1 45 2) = nI (lc (lz i) (lu i) (lv i)) := by
        rw [zsetS_1, hL2.1, hL2.2.1, hL2.2.2, zcode_lc]
      have hn9 : ∀ b, ¬ nI (F b) = -9 := fun b => nI_n9 (by have := hF240 b; omega)
      rcases zbst_ok (fun _ => true) F i with ⟨e, _⟩ | ⟨b, e, _⟩
      · rw [e]
        rw [zbst_n (P := fun _ => true) rfl e] at h9
        refine zk_iload hX dX11_where_47 rfl ?_
        refine zk_bipush (v := 98) hX dX11_where_49 (by decide) ?_
        refine zk_icmp_ge (tgt := 135) hX dX11_where_51 (by decide) (fun c51 => ?_) (fun c51 => ?_)
        · exact absurd c51 (nI_ge (b := 98) (by omega) (by decide))
        refine zk_aload_n hX dX11_where_54 rfl ?_
        refine zk_getR hX dX11_where_55 flX11_52 k_0 z_0 (hw1 _ _ (by decide) |>.trans r_0_7) ?_
        refine zk_iload hX dX11_where_58 rfl ?_
        refine zk_V1v hX dX11_where_60 kcX3_becomeNumber mlX11_361 viX3_becomeNumber rfl k_45 z_45 cb (Nat.le_of_ble_eq_true rfl) rfl ?_
        refine zk_aload_n hX dX11_where_63 rfl ?_
        refine zk_getR hX dX11_where_64 flX11_61 k_0 z_0 (hw2 _ _ (by decide) |>.trans r_0_9) ?_
        refine zk_iload_n hX dX11_where_67 rfl ?_
        refine zk_poses hX hw2 dX11_where_68 rfl (by first | assumption | omega) ?_
        refine zk_aload_n hX dX11_where_69 rfl ?_
        refine zk_getR hX dX11_where_70 flX11_52 k_0 z_0 (hw2 _ _ (by decide) |>.trans r_0_7) ?_
        refine zk_aload_n hX dX11_where_73 rfl ?_
        refine zk_getR hX dX11_where_74 flX11_97 k_0 z_0 (hw2 _ _ (by decide) |>.trans r_0_15) ?_
        refine zk_V2v hX dX11_where_77 kcX5_shadow mlX11_268 viX5_shadow rfl (zPok (by first | assumption | omega)) (zPoz _ (by first | assumption | omega)).1 cs (Nat.le_of_ble_eq_true rfl) rfl ?_
        refine zk_aload_n hX dX11_where_80 rfl ?_
        refine zk_getR hX dX11_where_81 flX11_68 k_0 z_0 (hw3 _ _ (by decide) |>.trans r_0_11) ?_
        refine zk_iload_n hX dX11_where_84 rfl ?_
        refine zk_beasts hX hw3 dX11_where_85 rfl (by first | assumption | omega) ?_
        refine zk_aload_n hX dX11_where_86 rfl ?_
        refine zk_getR hX dX11_where_87 flX11_97 k_0 z_0 (hw3 _ _ (by decide) |>.trans r_0_15) ?_
        refine zk_getL hX dX11_where_90 flX11_288 k_163 z_163 ?_
        rw [hZ.1]
        refine zk_aload_n hX dX11_where_93 rfl ?_
        refine zk_getR hX dX11_where_94 flX11_97 k_0 z_0 (hw3 _ _ (by decide) |>.trans r_0_15) ?_
        refine zk_getL hX dX11_where_97 flX11_292 k_163 z_163 ?_
        rw [hZ.2]
        refine zk_V2i hX dX11_where_100 kcX0_offOf mlX11_299 viX0_offOf rfl (zBek (by first | assumption | omega)) (zBez _ (by first | assumption | omega)).1 (s_X0_offOf hw3 hk hB3) (Nat.le_of_ble_eq_true rfl) rfl ?_
        rw [eo]
        refine zk_istore (lo' := [_, _, _, _, _, _, _]) hX dX11_where_103 (Nat.le_of_ble_eq_true rfl) rfl rfl ?_
        refine zk_iload_n hX dX11_where_105 rfl ?_
        refine zk_bipush (v := -9) hX dX11_where_106 (by decide) ?_
        refine zk_icmp_eq (tgt := 117) hX dX11_where_108 (by decide) (fun c108 => ?_) (fun c108 => ?_)
        rotate_left
        · exact absurd rfl c108
        refine zk_iload hX dX11_where_117 rfl ?_
        refine zk_istore_n (lo' := [_, _, _, _, _, _, _]) hX dX11_where_119 (Nat.le_of_ble_eq_true rfl) rfl rfl ?_
        refine zk_aload_n hX dX11_where_120 rfl ?_
        refine zk_getR hX dX11_where_121 flX11_52 k_0 z_0 (hw3 _ _ (by decide) |>.trans r_0_7) ?_
        refine zk_V0i hX dX11_where_124 kcX3_code mlX11_201 viX3_code rfl k_45 z_45 (s_X3_code (Or.inr rfl)) (Nat.le_of_ble_eq_true rfl) rfl ?_
        rw [ec]
        refine zk_istore (lo' := [_, _, _, _, _, _, _]) hX dX11_where_127 (Nat.le_of_ble_eq_true rfl) rfl rfl ?_
        refine zk_iinc (lo' := [_, _, _, _, _, _, _]) hX dX11_where_129 rfl (by first | exact zinc _ | exact rfl) (Nat.le_of_ble_eq_true rfl) rfl rfl ?_
        refine zk_goto (tgt := 47) hX dX11_where_132 (by decide) ?_
        exact h9 _ _ hF3
      · rw [e]
        have es := zbst_s (P := fun _ => true) (f := F) rfl e
        refine zk_iload hX dX11_where_47 rfl ?_
        refine zk_bipush (v := 98) hX dX11_where_49 (by decide) ?_
        refine zk_icmp_ge (tgt := 135) hX dX11_where_51 (by decide) (fun c51 => ?_) (fun c51 => ?_)
        · exact absurd c51 (nI_ge (b := 98) (by omega) (by decide))
        refine zk_aload_n hX dX11_where_54 rfl ?_
        refine zk_getR hX dX11_where_55 flX11_52 k_0 z_0 (hw1 _ _ (by decide) |>.trans r_0_7) ?_
        refine zk_iload hX dX11_where_58 rfl ?_
        refine zk_V1v hX dX11_where_60 kcX3_becomeNumber mlX11_361 viX3_becomeNumber rfl k_45 z_45 cb (Nat.le_of_ble_eq_true rfl) rfl ?_
        refine zk_aload_n hX dX11_where_63 rfl ?_
        refine zk_getR hX dX11_where_64 flX11_61 k_0 z_0 (hw2 _ _ (by decide) |>.trans r_0_9) ?_
        refine zk_iload_n hX dX11_where_67 rfl ?_
        refine zk_poses hX hw2 dX11_where_68 rfl (by first | assumption | omega) ?_
        refine zk_aload_n hX dX11_where_69 rfl ?_
        refine zk_getR hX dX11_where_70 flX11_52 k_0 z_0 (hw2 _ _ (by decide) |>.trans r_0_7) ?_
        refine zk_aload_n hX dX11_where_73 rfl ?_
        refine zk_getR hX dX11_where_74 flX11_97 k_0 z_0 (hw2 _ _ (by decide) |>.trans r_0_15) ?_
        refine zk_V2v hX dX11_where_77 kcX5_shadow mlX11_268 viX5_shadow rfl (zPok (by first | assumption | omega)) (zPoz _ (by first | assumption | omega)).1 cs (Nat.le_of_ble_eq_true rfl) rfl ?_
        refine zk_aload_n hX dX11_where_80 rfl ?_
        refine zk_getR hX dX11_where_81 flX11_68 k_0 z_0 (hw3 _ _ (by decide) |>.trans r_0_11) ?_
        refine zk_iload_n hX dX11_where_84 rfl ?_
        refine zk_beasts hX hw3 dX11_where_85 rfl (by first | assumption | omega) ?_
        refine zk_aload_n hX dX11_where_86 rfl ?_
        refine zk_getR hX dX11_where_87 flX11_97 k_0 z_0 (hw3 _ _ (by decide) |>.trans r_0_15) ?_
        refine zk_getL hX dX11_where_90 flX11_288 k_163 z_163 ?_
        rw [hZ.1]
        refine zk_aload_n hX dX11_where_93 rfl ?_
        refine zk_getR hX dX11_where_94 flX11_97 k_0 z_0 (hw3 _ _ (by decide) |>.trans r_0_15) ?_
        refine zk_getL hX dX11_where_97 flX11_292 k_163 z_163 ?_
        rw [hZ.2]
        refine zk_V2i hX dX11_where_100 kcX0_offOf mlX11_299 viX0_offOf rfl (zBek (by first | assumption | omega)) (zBez _ (by first | assumption | omega)).1 (s_X0_offOf hw3 hk hB3) (Nat.le_of_ble_eq_true rfl) rfl ?_
        rw [eo]
        refine zk_istore (lo' := [_, _, _, _, _, _, _]) hX dX11_where_103 (Nat.le_of_ble_eq_true rfl) rfl rfl ?_
        refine zk_iload_n hX dX11_where_105 rfl ?_
        refine zk_bipush (v := -9) hX dX11_where_106 (by decide) ?_
        refine zk_icmp_eq (tgt := 117) hX dX11_where_108 (by decide) (fun c108 => ?_) (fun c108 => ?_)
        · exact absurd c108 (hn9 b)
        refine zk_iload hX dX11_where_111 rfl ?_
        refine zk_iload_n hX dX11_where_113 rfl ?_
        refine zk_icmp_ge (tgt := 129) hX dX11_where_114 (by decide) (fun c114 => ?_) (fun c114 => ?_)
        · refine zk_iinc (lo' := [_, _, _, _, _, _, _]) hX dX11_where_129 rfl (by first | exact zinc _ | exact rfl) (Nat.le_of_ble_eq_true rfl) rfl rfl ?_
          refine zk_goto (tgt := 47) hX dX11_where_132 (by decide) ?_
          have b1 := hF240 i
          have b2 := hF240 b
          first
            | (have c114' := nI_leD c114 (by omega) (by omega)
               rw [es, if_neg (by omega)] at h9
               exact h9 _ _ hF3)
            | (have c114' := nI_ltD c114 (by omega) (by omega)
               rw [es, if_pos (by omega)] at h9
               exact h9 _ _ hF3)
        · refine zk_iload hX dX11_where_117 rfl ?_
          refine zk_istore_n (lo' := [_, _, _, _, _, _, _]) hX dX11_where_119 (Nat.le_of_ble_eq_true rfl) rfl rfl ?_
          refine zk_aload_n hX dX11_where_120 rfl ?_
          refine zk_getR hX dX11_where_121 flX11_52 k_0 z_0 (hw3 _ _ (by decide) |>.trans r_0_7) ?_
          refine zk_V0i hX dX11_where_124 kcX3_code mlX11_201 viX3_code rfl k_45 z_45 (s_X3_code (Or.inr rfl)) (Nat.le_of_ble_eq_true rfl) rfl ?_
          rw [ec]
          refine zk_istore (lo' := [_, _, _, _, _, _, _]) hX dX11_where_127 (Nat.le_of_ble_eq_true rfl) rfl rfl ?_
          refine zk_iinc (lo' := [_, _, _, _, _, _, _]) hX dX11_where_129 rfl (by first | exact zinc _ | exact rfl) (Nat.le_of_ble_eq_true rfl) rfl rfl ?_
          refine zk_goto (tgt := 47) hX dX11_where_132 (by decide) ?_
          have b1 := hF240 i
          have b2 := hF240 b
          first
            | (have c114' := nI_leD c114 (by omega) (by omega)
               rw [es, if_neg (by omega)] at h9
               exact h9 _ _ hF3)
            | (have c114' := nI_ltD c114 (by omega) (by omega)
               rw [es, if_pos (by omega)] at h9
               exact h9 _ _ hF3)
  refine zk_aload_n hX dX11_where_0 rfl ?_
  refine zk_iload_n hX dX11_where_1 rfl ?_
  refine zk_V1i hX dX11_where_2 kcX11_isPose mlX11_227 viX11_isPose rfl k_0 z_0 (s_X11_isPose hw _) (Nat.le_of_ble_eq_true rfl) rfl ?_
  refine zk_if_eqB (tgt := 15) hX dX11_where_5 (by decide) (fun c5 => ?_) (fun c5 => ?_)
  · exact absurd c5 (not_not_intro (by rw [hP]; exact ⟨nI_pos' (by omega), nI_lt hp (by omega)⟩))
  refine zk_iload_n hX dX11_where_8 rfl ?_
  refine zk_S1i hX dX11_where_9 kcX11_isBeast mlX11_272 smX11_isBeast rfl (s_X11_isBeast _) (Nat.le_of_ble_eq_true rfl) rfl ?_
  refine zk_if_neB (tgt := 17) hX dX11_where_12 (by decide) (fun c12 => ?_) (fun c12 => ?_)
  rotate_left
  · exact absurd (zrlt hk) c12
  refine zk_aload_n hX dX11_where_17 rfl ?_
  refine zk_getR hX dX11_where_18 flX11_68 k_0 z_0 (hw _ _ (by decide) |>.trans r_0_11) ?_
  refine zk_iload_n hX dX11_where_21 rfl ?_
  refine zk_beasts hX hw dX11_where_22 rfl (by first | assumption | omega) ?_
  refine zk_getI hX dX11_where_23 flX11_284 (zBek (by first | assumption | omega)) (zBez _ (by first | assumption | omega)).1 ?_
  refine zk_if_ne (tgt := 38) hX dX11_where_26 (by decide) (fun c26 => ?_) (fun c26 => ?_)
  rotate_left
  · exact absurd c26 ht
  refine zk_bipush (v := -9) hX dX11_where_38 (by decide) ?_
  refine zk_istore_n (lo' := [_, _, _, _, _, _, _]) hX dX11_where_40 (Nat.le_of_ble_eq_true rfl) rfl rfl ?_
  refine zk_iconst (v := 0) hX dX11_where_41 (by decide) ?_
  refine zk_istore (lo' := [_, _, _, _, _, _, _]) hX dX11_where_42 (Nat.le_of_ble_eq_true rfl) rfl rfl ?_
  refine zk_iconst (v := 0) hX dX11_where_44 (by decide) ?_
  refine zk_istore (lo' := [_, _, _, _, _, _, _]) hX dX11_where_45 (Nat.le_of_ble_eq_true rfl) rfl rfl ?_
  exact loop 98 0 w _ (by omega) zFr_r

