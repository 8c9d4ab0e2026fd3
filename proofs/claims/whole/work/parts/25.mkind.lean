theorem s_X12_isOn {G : zG} {w : zW} (x y : Int32) : zEi G mX12_isOn [.int x, .int y] w (zb (zon (x, y))) w := by
  refine zC_of (lo := [_, _]) kcX12_isOn (Nat.le_of_ble_eq_true rfl) rfl (fun X hX hE => ?_)
  refine zk_iload_n hX dX12_isOn_0 rfl ?_
  refine zk_iconst (v := 0) hX dX12_isOn_1 (by decide) ?_
  refine zk_bipush (v := 11) hX dX12_isOn_2 (by decide) ?_
  refine zk_S3i hX dX12_isOn_4 kcX12_in mlX12_131 smX12_in rfl (s_X12_in _ _ _) (Nat.le_of_ble_eq_true rfl) rfl ?_
  refine zk_if_eqB (tgt := 24) hX dX12_isOn_7 (by decide) (fun c7 => ?_) (fun c7 => ?_)
  · refine zk_iconst (v := 0) hX dX12_isOn_24 (by decide) ?_
    refine zk_zret hX hE rfl ⟨rfl, rfl⟩ dX12_isOn_25 rfl ⟨_, rfl, ?_⟩
    exact ⟨by first | exact zb_t' ⟨by show 0 ≤ x ∧ x < 12; grind, by show 0 ≤ y ∧ y < 10; grind⟩ | exact zb_f' (fun q => by have q1 : 0 ≤ x ∧ x < 12 := q.1
                                                                                                                            have q2 : 0 ≤ y ∧ y < 10 := q.2
                                                                                                                            grind), rfl⟩
  · refine zk_iload_n hX dX12_isOn_10 rfl ?_
    refine zk_iconst (v := 0) hX dX12_isOn_11 (by decide) ?_
    refine zk_bipush (v := 9) hX dX12_isOn_12 (by decide) ?_
    refine zk_S3i hX dX12_isOn_14 kcX12_in mlX12_131 smX12_in rfl (s_X12_in _ _ _) (Nat.le_of_ble_eq_true rfl) rfl ?_
    refine zk_if_eqB (tgt := 24) hX dX12_isOn_17 (by decide) (fun c17 => ?_) (fun c17 => ?_)
    · refine zk_iconst (v := 0) hX dX12_isOn_24 (by decide) ?_
      refine zk_zret hX hE rfl ⟨rfl, rfl⟩ dX12_isOn_25 rfl ⟨_, rfl, ?_⟩
      exact ⟨by first | exact zb_t' ⟨by show 0 ≤ x ∧ x < 12; grind, by show 0 ≤ y ∧ y < 10; grind⟩ | exact zb_f' (fun q => by have q1 : 0 ≤ x ∧ x < 12 := q.1
                                                                                                                              have q2 : 0 ≤ y ∧ y < 10 := q.2
                                                                                                                              grind), rfl⟩
    · refine zk_iconst (v := 1) hX dX12_isOn_20 (by decide) ?_
      refine zk_goto (tgt := 25) hX dX12_isOn_21 (by decide) ?_
      refine zk_zret hX hE rfl ⟨rfl, rfl⟩ dX12_isOn_25 rfl ⟨_, rfl, ?_⟩
      exact ⟨by first | exact zb_t' ⟨by show 0 ≤ x ∧ x < 12; grind, by show 0 ≤ y ∧ y < 10; grind⟩ | exact zb_f' (fun q => by have q1 : 0 ≤ x ∧ x < 12 := q.1
                                                                                                                              have q2 : 0 ≤ y ∧ y < 10 := q.2
                                                                                                                              grind), rfl⟩
/-- whether one of the first k is there where the i-th is -/
def zsame (w : zW) (i k : Nat) : Bool := zany (fun q => decide (w.1 180 q = w.1 180 i ∧ w.1 181 q = w.1 181 i)) k
theorem zsame_iff {w : zW} {L : List zPt} {i : Nat} {p : zPt} (hP : zPts w L) (hp : L[i]? = some p) : zsame w i i = true ↔ ∃ q, q ∈ L.take i ∧ q = p := by
  unfold zsame
  rw [zany_m]
  have h1 := hP.2 i p hp
  have hi := (List.getElem?_eq_some_iff.mp hp).1
  constructor
  · rintro ⟨k, hk, q⟩
    have q := of_decide_eq_true q
    have hk2 : k < L.length := by omega
    have h2 := hP.2 k L[k] (List.getElem?_eq_getElem hk2)
    refine ⟨L[k], List.mem_iff_getElem?.mpr ⟨k, by rw [List.getElem?_take_of_lt hk, List.getElem?_eq_getElem hk2]⟩, ?_⟩
    rw [h2.1, h1.1, h2.2, h1.2] at q
    exact Prod.ext q.1 q.2
  · rintro ⟨q, hq, rfl⟩
    obtain ⟨k, hk⟩ := List.mem_iff_getElem?.mp hq
    have hk2 : k < i := by
      have := (List.getElem?_eq_some_iff.mp hk).1
      rw [List.length_take] at this
      omega
    rw [List.getElem?_take_of_lt hk2] at hk
    have h2 := hP.2 k q hk
    exact ⟨k, hk2, decide_eq_true ⟨h2.1.trans h1.1.symm, h2.2.trans h1.2.symm⟩⟩
theorem zwr_snoc {L : List zPt} {i : Nat} {p : zPt} (hp : L[i]? = some p) : zwrL zno (L.take (i + 1)) = zwrL zno (L.take i) + zwr1 (zdkL zno (L.take i)) p := by
  have e : L.take (i + 1) = L.take i ++ [p] := by
    rw [List.take_add_one, hp]
    rfl
  rw [e, zwrL_app, zwrL_1]
theorem s_X12_wrongMany {G : zG} {w : zW} {L : List zPt} (hw : zWf w) (hP : zPts w L) (hL : L.length ≤ 14) : zEi G mX12_wrongMany [.ref 166] w (nI (zwrL zno L)) w := by
  refine zC_of (lo := [_, _, _, _, _]) kcX12_wrongMany (Nat.le_of_ble_eq_true rfl) rfl (fun X hX hE => ?_)
  have loop : ∀ z i (a b : Value), i + z = L.length → zk0 G X mX12_wrongMany 4 [.ref 166, .int (nI (zwrL zno (L.take i))), .int (nI i), a, b] [] w := by
    intro z
    induction z with
    | zero =>
      intro i a b hi
      obtain rfl : i = L.length := by omega
      refine zk_iload_n hX dX12_wrongMany_4 rfl ?_
      refine zk_aload_n hX dX12_wrongMany_5 rfl ?_
      refine zk_getI hX dX12_wrongMany_6 flX12_225 k_166 z_166 ?_
      rw [hP.1]
      refine zk_icmp_ge (tgt := 111) hX dX12_wrongMany_9 (by decide) (fun c9 => ?_) (fun c9 => ?_)
      rotate_left
      · exact absurd (nI_le (Nat.le_refl _) (by omega)) c9
      refine zk_iload_n hX dX12_wrongMany_111 rfl ?_
      refine zk_iret hX hE rfl ⟨rfl, rfl⟩ dX12_wrongMany_112 ⟨_, rfl, ?_⟩
      rw [List.take_length]; exact ⟨rfl, rfl⟩
    | succ z ih =>
      intro i a b hi
      have hi2 : i < L.length := by omega
      obtain ⟨p, hp⟩ : ∃ p, L[i]? = some p := ⟨L[i], List.getElem?_eq_getElem hi2⟩
      have hpp := hP.2 i p hp
      have es := zwr_snoc hp
      have hsm := zsame_iff hP hp
      have e1 : zwr1 (zdkL zno (L.take i)) p = if zon p ∧ ¬ zsame w i i = true then 0 else 1 :=
        (zwr_at rfl).trans (by
          by_cases q : zon p ∧ ¬ zsame w i i = true
          · rw [if_pos q, if_pos ⟨q.1, fun z => q.2 (hsm.mpr z)⟩]
          · rw [if_neg q, if_neg (fun z => q ⟨z.1, fun y => z.2 (hsm.mp y)⟩)])
      have inner : ∀ y k, k + y = i → zk0 G X mX12_wrongMany 39 [.ref 166, .int (nI (zwrL zno (L.take i))), .int (nI i), .int (zb (¬ zon p ∨ zsame w i k = true)), .int (nI k)] [] w := by
        intro y
        induction y with
        | zero =>
          intro k hk
          obtain rfl : k = i := by omega
          refine zk_iload hX dX12_wrongMany_39 rfl ?_
          refine zk_iload_n hX dX12_wrongMany_41 rfl ?_
          refine zk_icmp_ge (tgt := 93) hX dX12_wrongMany_42 (by decide) (fun c42 => ?_) (fun c42 => ?_)
          rotate_left
          · exact absurd (nI_le (Nat.le_refl _) (by omega)) c42
          refine zk_iload_n hX dX12_wrongMany_93 rfl ?_
          refine zk_iload_n hX dX12_wrongMany_94 rfl ?_
          refine zk_if_eqB (tgt := 102) hX dX12_wrongMany_95 (by decide) (fun c95 => ?_) (fun c95 => ?_)
          · refine zk_iconst (v := 0) hX dX12_wrongMany_102 (by decide) ?_
            refine zk_iadd hX dX12_wrongMany_103 ?_
            refine zk_istore_n (lo' := [_, _, _, _, _]) hX dX12_wrongMany_104 (Nat.le_of_ble_eq_true rfl) rfl rfl ?_
            refine zk_iinc (lo' := [_, _, _, _, _]) hX dX12_wrongMany_105 rfl (by first | exact zinc _ | exact rfl) (Nat.le_of_ble_eq_true rfl) rfl rfl ?_
            refine zk_goto (tgt := 4) hX dX12_wrongMany_108 (by decide) ?_
            have h0 := ih (k + 1) (.int (zb (¬ zon p ∨ zsame w k k = true))) (.int (nI k)) (by omega)
            rw [es, ← nI_add, e1] at h0
            first | (rw [if_pos (by grind)] at h0; exact h0) | (rw [if_neg (by grind)] at h0; exact h0)
          · refine zk_iconst (v := 1) hX dX12_wrongMany_98 (by decide) ?_
            refine zk_goto (tgt := 103) hX dX12_wrongMany_99 (by decide) ?_
            refine zk_iadd hX dX12_wrongMany_103 ?_
            refine zk_istore_n (lo' := [_, _, _, _, _]) hX dX12_wrongMany_104 (Nat.le_of_ble_eq_true rfl) rfl rfl ?_
            refine zk_iinc (lo' := [_, _, _, _, _]) hX dX12_wrongMany_105 rfl (by first | exact zinc _ | exact rfl) (Nat.le_of_ble_eq_true rfl) rfl rfl ?_
            refine zk_goto (tgt := 4) hX dX12_wrongMany_108 (by decide) ?_
            have h0 := ih (k + 1) (.int (zb (¬ zon p ∨ zsame w k k = true))) (.int (nI k)) (by omega)
            rw [es, ← nI_add, e1] at h0
            first | (rw [if_pos (by grind)] at h0; exact h0) | (rw [if_neg (by grind)] at h0; exact h0)
        | succ y ih2 =>
          intro k hk
          have ek : zsame w i (k + 1) = (zsame w i k || decide (w.1 180 k = w.1 180 i ∧ w.1 181 k = w.1 181 i)) := rfl
          have h0 := ih2 (k + 1) (by omega)
          have et : (¬ zon p ∨ zsame w i k = true) ∨ (w.1 180 k = w.1 180 i ∧ w.1 181 k = w.1 181 i) → zb (¬ zon p ∨ zsame w i (k + 1) = true) = 1 := fun q => by
            refine zb_t ?_
            rw [ek, Bool.or_eq_true, decide_eq_true_eq]
            exact q.elim (fun q => q.imp_right Or.inl) (fun q => Or.inr (Or.inr q))
          have ef : ¬ ((¬ zon p ∨ zsame w i k = true) ∨ (w.1 180 k = w.1 180 i ∧ w.1 181 k = w.1 181 i)) → zb (¬ zon p ∨ zsame w i (k + 1) = true) = 0 := fun q => by
            refine zb_f (fun q2 => q ?_)
            rw [ek, Bool.or_eq_true, decide_eq_true_eq] at q2
            exact q2.elim (fun a => Or.inl (Or.inl a)) (fun a => a.elim (fun a => Or.inl (Or.inr a)) Or.inr)
          refine zk_iload hX dX12_wrongMany_39 rfl ?_
          refine zk_iload_n hX dX12_wrongMany_41 rfl ?_
          refine zk_icmp_ge (tgt := 93) hX dX12_wrongMany_42 (by decide) (fun c42 => ?_) (fun c42 => ?_)
          · exact absurd c42 (nI_ge (by omega) (by omega))
          refine zk_iload_n hX dX12_wrongMany_45 rfl ?_
          refine zk_if_neB (tgt := 81) hX dX12_wrongMany_46 (by decide) (fun c46 => ?_) (fun c46 => ?_)
          · refine zk_iconst (v := 1) hX dX12_wrongMany_81 (by decide) ?_
            refine zk_goto (tgt := 86) hX dX12_wrongMany_82 (by decide) ?_
            refine zk_istore_n (lo' := [_, _, _, _, _]) hX dX12_wrongMany_86 (Nat.le_of_ble_eq_true rfl) rfl rfl ?_
            refine zk_iinc (lo' := [_, _, _, _, _]) hX dX12_wrongMany_87 rfl (by first | exact zinc _ | exact rfl) (Nat.le_of_ble_eq_true rfl) rfl rfl ?_
            refine zk_goto (tgt := 39) hX dX12_wrongMany_90 (by decide) ?_
            first
            | (rw [et (Or.inl c46)] at h0; exact h0)
            | (rw [et (Or.inr ⟨c62, c78⟩)] at h0; exact h0)
            | (rw [et (Or.inr ⟨Decidable.not_not.mp c62, Decidable.not_not.mp c78⟩)] at h0; exact h0)
            | (rw [ef (fun q => q.elim c46 (fun q => c62 q.1))] at h0; exact h0)
            | (rw [ef (fun q => q.elim c46 (fun q => c78 q.2))] at h0; exact h0)
          · refine zk_aload_n hX dX12_wrongMany_49 rfl ?_
            refine zk_getR hX dX12_wrongMany_50 flX12_50 k_166 z_166 (hw _ _ (by decide) |>.trans r_166_30) ?_
            refine zk_iload hX dX12_wrongMany_53 rfl ?_
            refine zk_ialdE hX dX12_wrongMany_55 rfl k_180 z_180 (by first | assumption | omega) rfl ?_
            refine zk_aload_n hX dX12_wrongMany_56 rfl ?_
            refine zk_getR hX dX12_wrongMany_57 flX12_50 k_166 z_166 (hw _ _ (by decide) |>.trans r_166_30) ?_
            refine zk_iload_n hX dX12_wrongMany_60 rfl ?_
            refine zk_ialdE hX dX12_wrongMany_61 rfl k_180 z_180 (by first | assumption | omega) rfl ?_
            refine zk_icmp_ne (tgt := 85) hX dX12_wrongMany_62 (by decide) (fun c62 => ?_) (fun c62 => ?_)
            · refine zk_iconst (v := 0) hX dX12_wrongMany_85 (by decide) ?_
              refine zk_istore_n (lo' := [_, _, _, _, _]) hX dX12_wrongMany_86 (Nat.le_of_ble_eq_true rfl) rfl rfl ?_
              refine zk_iinc (lo' := [_, _, _, _, _]) hX dX12_wrongMany_87 rfl (by first | exact zinc _ | exact rfl) (Nat.le_of_ble_eq_true rfl) rfl rfl ?_
              refine zk_goto (tgt := 39) hX dX12_wrongMany_90 (by decide) ?_
              first
              | (rw [et (Or.inl c46)] at h0; exact h0)
              | (rw [et (Or.inr ⟨c62, c78⟩)] at h0; exact h0)
              | (rw [et (Or.inr ⟨Decidable.not_not.mp c62, Decidable.not_not.mp c78⟩)] at h0; exact h0)
              | (rw [ef (fun q => q.elim c46 (fun q => c62 q.1))] at h0; exact h0)
              | (rw [ef (fun q => q.elim c46 (fun q => c78 q.2))] at h0; exact h0)
            · refine zk_aload_n hX dX12_wrongMany_65 rfl ?_
              refine zk_getR hX dX12_wrongMany_66 flX12_53 k_166 z_166 (hw _ _ (by decide) |>.trans r_166_31) ?_
              refine zk_iload hX dX12_wrongMany_69 rfl ?_
              refine zk_ialdE hX dX12_wrongMany_71 rfl k_181 z_181 (by first | assumption | omega) rfl ?_
              refine zk_aload_n hX dX12_wrongMany_72 rfl ?_
              refine zk_getR hX dX12_wrongMany_73 flX12_53 k_166 z_166 (hw _ _ (by decide) |>.trans r_166_31) ?_
              refine zk_iload_n hX dX12_wrongMany_76 rfl ?_
              refine zk_ialdE hX dX12_wrongMany_77 rfl k_181 z_181 (by first | assumption | omega) rfl ?_
              refine zk_icmp_ne (tgt := 85) hX dX12_wrongMany_78 (by decide) (fun c78 => ?_) (fun c78 => ?_)
              · refine zk_iconst (v := 0) hX dX12_wrongMany_85 (by decide) ?_
                refine zk_istore_n (lo' := [_, _, _, _, _]) hX dX12_wrongMany_86 (Nat.le_of_ble_eq_true rfl) rfl rfl ?_
                refine zk_iinc (lo' := [_, _, _, _, _]) hX dX12_wrongMany_87 rfl (by first | exact zinc _ | exact rfl) (Nat.le_of_ble_eq_true rfl) rfl rfl ?_
                refine zk_goto (tgt := 39) hX dX12_wrongMany_90 (by decide) ?_
                first
                | (rw [et (Or.inl c46)] at h0; exact h0)
                | (rw [et (Or.inr ⟨c62, c78⟩)] at h0; exact h0)
                | (rw [et (Or.inr ⟨Decidable.not_not.mp c62, Decidable.not_not.mp c78⟩)] at h0; exact h0)
                | (rw [ef (fun q => q.elim c46 (fun q => c62 q.1))] at h0; exact h0)
                | (rw [ef (fun q => q.elim c46 (fun q => c78 q.2))] at h0; exact h0)
              · refine zk_iconst (v := 1) hX dX12_wrongMany_81 (by decide) ?_
                refine zk_goto (tgt := 86) hX dX12_wrongMany_82 (by decide) ?_
                refine zk_istore_n (lo' := [_, _, _, _, _]) hX dX12_wrongMany_86 (Nat.le_of_ble_eq_true rfl) rfl rfl ?_
                refine zk_iinc (lo' := [_, _, _, _, _]) hX dX12_wrongMany_87 rfl (by first | exact zinc _ | exact rfl) (Nat.le_of_ble_eq_true rfl) rfl rfl ?_
                refine zk_goto (tgt := 39) hX dX12_wrongMany_90 (by decide) ?_
                first
                | (rw [et (Or.inl c46)] at h0; exact h0)
                | (rw [et (Or.inr ⟨c62, c78⟩)] at h0; exact h0)
                | (rw [et (Or.inr ⟨Decidable.not_not.mp c62, Decidable.not_not.mp c78⟩)] at h0; exact h0)
                | (rw [ef (fun q => q.elim c46 (fun q => c62 q.1))] at h0; exact h0)
                | (rw [ef (fun q => q.elim c46 (fun q => c78 q.2))] at h0; exact h0)
      have hin0 := inner i 0 (by omega)
      refine zk_iload_n hX dX12_wrongMany_4 rfl ?_
      refine zk_aload_n hX dX12_wrongMany_5 rfl ?_
      refine zk_getI hX dX12_wrongMany_6 flX12_225 k_166 z_166 ?_
      rw [hP.1]
      refine zk_icmp_ge (tgt := 111) hX dX12_wrongMany_9 (by decide) (fun c9 => ?_) (fun c9 => ?_)
      · exact absurd c9 (nI_ge (by omega) (by omega))
      refine zk_aload_n hX dX12_wrongMany_12 rfl ?_
      refine zk_getR hX dX12_wrongMany_13 flX12_50 k_166 z_166 (hw _ _ (by decide) |>.trans r_166_30) ?_
      refine zk_iload_n hX dX12_wrongMany_16 rfl ?_
      refine zk_ialdE hX dX12_wrongMany_17 rfl k_180 z_180 (by first | assumption | omega) rfl ?_
      rw [hpp.1]
      refine zk_aload_n hX dX12_wrongMany_18 rfl ?_
      refine zk_getR hX dX12_wrongMany_19 flX12_53 k_166 z_166 (hw _ _ (by decide) |>.trans r_166_31) ?_
      refine zk_iload_n hX dX12_wrongMany_22 rfl ?_
      refine zk_ialdE hX dX12_wrongMany_23 rfl k_181 z_181 (by first | assumption | omega) rfl ?_
      rw [hpp.2]
      refine zk_S2i hX dX12_wrongMany_24 kcX12_isOn mlX12_242 smX12_isOn rfl (s_X12_isOn _ _) (Nat.le_of_ble_eq_true rfl) rfl ?_
      refine zk_if_neB (tgt := 34) hX dX12_wrongMany_27 (by decide) (fun c27 => ?_) (fun c27 => ?_)
      · refine zk_iconst (v := 0) hX dX12_wrongMany_34 (by decide) ?_
        refine zk_istore_n (lo' := [_, _, _, _, _]) hX dX12_wrongMany_35 (Nat.le_of_ble_eq_true rfl) rfl rfl ?_
        refine zk_iconst (v := 0) hX dX12_wrongMany_36 (by decide) ?_
        refine zk_istore (lo' := [_, _, _, _, _]) hX dX12_wrongMany_37 (Nat.le_of_ble_eq_true rfl) rfl rfl ?_
        first
        | (rw [zb_f (fun q => q.elim (fun q => q c27) (fun q => by cases q))] at hin0; exact hin0)
        | (rw [zb_t (Or.inl c27)] at hin0; exact hin0)
      · refine zk_iconst (v := 1) hX dX12_wrongMany_30 (by decide) ?_
        refine zk_goto (tgt := 35) hX dX12_wrongMany_31 (by decide) ?_
        refine zk_istore_n (lo' := [_, _, _, _, _]) hX dX12_wrongMany_35 (Nat.le_of_ble_eq_true rfl) rfl rfl ?_
        refine zk_iconst (v := 0) hX dX12_wrongMany_36 (by decide) ?_
        refine zk_istore (lo' := [_, _, _, _, _]) hX dX12_wrongMany_37 (Nat.le_of_ble_eq_true rfl) rfl rfl ?_
        first
        | (rw [zb_f (fun q => q.elim (fun q => q c27) (fun q => by cases q))] at hin0; exact hin0)
        | (rw [zb_t (Or.inl c27)] at hin0; exact hin0)
  refine zk_iconst (v := 0) hX dX12_wrongMany_0 (by decide) ?_
  refine zk_istore_n (lo' := [_, _, _, _, _]) hX dX12_wrongMany_1 (Nat.le_of_ble_eq_true rfl) rfl rfl ?_
  refine zk_iconst (v := 0) hX dX12_wrongMany_2 (by decide) ?_
  refine zk_istore_n (lo' := [_, _, _, _, _]) hX dX12_wrongMany_3 (Nat.le_of_ble_eq_true rfl) rfl rfl ?_
  exact loop L.length 0 _ _ (by omega)
/-- turns without signs together, of a hand (-1: of both) -/
def zldo (D : zD) (t : Nat → Int32) (o : Int32) (m : Nat) : Nat := zsm (fun j => if zac D o (dH D j) = true then zab (t j) else 0) m
theorem zldo_le {D : zD} {t : Nat → Int32} {o : Int32} (h : zT2 D t) {m : Nat} (hm : m ≤ dJ D) : zldo D t o m ≤ 2 * m := zsm_le (fun i hi => by
  have := (zab_2 (h i (by omega))).1
  split <;> omega)
theorem s_X12_turned {G : zG} {w : zW} {D : zD} (hw : zWf w) (hM : mHd w D) (hD : zDok D) (hT : zT2 D (w.1 179)) {o : Int32} (ho : o = -1 ∨ 0 ≤ o) :
    zEi G mX12_turned [.ref 166, .int o] w (nI (zldo D (w.1 179) o (dJ D))) w := by
  have h6 := hD.1.2.2
  have hF6 := hD.1.2.1
  refine zC_of (lo := [_, _, _, _, _]) kcX12_turned (Nat.le_of_ble_eq_true rfl) rfl (fun X hX hE => ?_)
  have loop : ∀ z j (a : Value), j + z = dJ D → zk0 G X mX12_turned 4 [.ref 166, .int o, .int (nI (zldo D (w.1 179) o j)), .int (nI j), a] [] w := by
    intro z
    induction z with
    | zero =>
      intro j a hj
      obtain rfl : j = dJ D := by omega
      refine zk_iload_n hX dX12_turned_4 rfl ?_
      refine zk_aload_n hX dX12_turned_5 rfl ?_
      refine zk_getI hX dX12_turned_6 flX12_199 k_166 z_166 ?_
      rw [hM.1.2.2]
      refine zk_icmp_ge (tgt := 85) hX dX12_turned_9 (by decide) (fun c9 => ?_) (fun c9 => ?_)
      rotate_left
      · exact absurd (nI_le (Nat.le_refl _) (by omega)) c9
      refine zk_iload_n hX dX12_turned_85 rfl ?_
      refine zk_iret hX hE rfl ⟨rfl, rfl⟩ dX12_turned_86 ⟨_, rfl, ?_⟩
      exact ⟨rfl, rfl⟩
    | succ z ih =>
      intro j a hj
      have hMj := hM.2.2.2 j (by omega)
      have hDj := hD.2.2.2.2.1 j (by omega)
      have hMf := hM.2.2.1 (dH D j) hDj.1
      have hA := zab_2 (hT j (by omega))
      have e0 : zldo D (w.1 179) o (j + 1) = zldo D (w.1 179) o j + (if zac D o (dH D j) = true then zab (w.1 179 j) else 0) := rfl
      have h0 := fun a => ih (j + 1) a (by omega)
      rw [e0, ← nI_add] at h0
      have k35 : (o = -1 ∨ o = nI (dO D (dH D j))) → zk0 G X mX12_turned 35 [.ref 166, .int o, .int (nI (zldo D (w.1 179) o j)), .int (nI j), a] [] w := by
        intro q
        rw [if_pos (show zac D o (dH D j) = true by unfold zac; exact decide_eq_true q)] at h0
        refine zk_iconst (v := 1) hX dX12_turned_35 (by decide) ?_
        refine zk_goto (tgt := 40) hX dX12_turned_36 (by decide) ?_
        refine zk_istore (lo' := [_, _, _, _, _]) hX dX12_turned_40 (Nat.le_of_ble_eq_true rfl) rfl rfl ?_
        refine zk_iload_n hX dX12_turned_42 rfl ?_
        refine zk_iload hX dX12_turned_43 rfl ?_
        refine zk_if_ne (tgt := 52) hX dX12_turned_45 (by decide) (fun c45 => ?_) (fun c45 => ?_)
        rotate_left
        · exact absurd c45 (by decide)
        refine zk_aload_n hX dX12_turned_52 rfl ?_
        refine zk_getR hX dX12_turned_53 flX12_47 k_166 z_166 (hw _ _ (by decide) |>.trans r_166_28) ?_
        refine zk_iload_n hX dX12_turned_56 rfl ?_
        refine zk_ialdE hX dX12_turned_57 rfl k_179 z_179 (by first | assumption | omega) rfl ?_
        refine zk_if_ge (tgt := 71) hX dX12_turned_58 (by decide) (fun c58 => ?_) (fun c58 => ?_)
        · refine zk_aload_n hX dX12_turned_71 rfl ?_
          refine zk_getR hX dX12_turned_72 flX12_47 k_166 z_166 (hw _ _ (by decide) |>.trans r_166_28) ?_
          refine zk_iload_n hX dX12_turned_75 rfl ?_
          refine zk_ialdE hX dX12_turned_76 rfl k_179 z_179 (by first | assumption | omega) rfl ?_
          try rw [hA.2.2.2 c58]
          refine zk_iadd hX dX12_turned_77 ?_
          refine zk_istore_n (lo' := [_, _, _, _, _]) hX dX12_turned_78 (Nat.le_of_ble_eq_true rfl) rfl rfl ?_
          refine zk_iinc (lo' := [_, _, _, _, _]) hX dX12_turned_79 rfl (by first | exact zinc _ | exact rfl) (Nat.le_of_ble_eq_true rfl) rfl rfl ?_
          refine zk_goto (tgt := 4) hX dX12_turned_82 (by decide) ?_
          exact h0 _
        · refine zk_aload_n hX dX12_turned_61 rfl ?_
          refine zk_getR hX dX12_turned_62 flX12_47 k_166 z_166 (hw _ _ (by decide) |>.trans r_166_28) ?_
          refine zk_iload_n hX dX12_turned_65 rfl ?_
          refine zk_ialdE hX dX12_turned_66 rfl k_179 z_179 (by first | assumption | omega) rfl ?_
          refine zk_ineg hX dX12_turned_67 ?_
          rw [hA.2.2.1 c58]
          refine zk_goto (tgt := 77) hX dX12_turned_68 (by decide) ?_
          try rw [hA.2.2.2 c58]
          refine zk_iadd hX dX12_turned_77 ?_
          refine zk_istore_n (lo' := [_, _, _, _, _]) hX dX12_turned_78 (Nat.le_of_ble_eq_true rfl) rfl rfl ?_
          refine zk_iinc (lo' := [_, _, _, _, _]) hX dX12_turned_79 rfl (by first | exact zinc _ | exact rfl) (Nat.le_of_ble_eq_true rfl) rfl rfl ?_
          refine zk_goto (tgt := 4) hX dX12_turned_82 (by decide) ?_
          exact h0 _
      have k39 : ¬ (o = -1 ∨ o = nI (dO D (dH D j))) → zk0 G X mX12_turned 39 [.ref 166, .int o, .int (nI (zldo D (w.1 179) o j)), .int (nI j), a] [] w := by
        intro q
        rw [if_neg (show ¬ zac D o (dH D j) = true by unfold zac; simpa using q)] at h0
        refine zk_iconst (v := 0) hX dX12_turned_39 (by decide) ?_
        refine zk_istore (lo' := [_, _, _, _, _]) hX dX12_turned_40 (Nat.le_of_ble_eq_true rfl) rfl rfl ?_
        refine zk_iload_n hX dX12_turned_42 rfl ?_
        refine zk_iload hX dX12_turned_43 rfl ?_
        refine zk_if_ne (tgt := 52) hX dX12_turned_45 (by decide) (fun c45 => ?_) (fun c45 => ?_)
        · exact absurd c45 (fun q => q rfl)
        refine zk_iconst (v := 0) hX dX12_turned_48 (by decide) ?_
        refine zk_goto (tgt := 77) hX dX12_turned_49 (by decide) ?_
        refine zk_iadd hX dX12_turned_77 ?_
        refine zk_istore_n (lo' := [_, _, _, _, _]) hX dX12_turned_78 (Nat.le_of_ble_eq_true rfl) rfl rfl ?_
        refine zk_iinc (lo' := [_, _, _, _, _]) hX dX12_turned_79 rfl (by first | exact zinc _ | exact rfl) (Nat.le_of_ble_eq_true rfl) rfl rfl ?_
        refine zk_goto (tgt := 4) hX dX12_turned_82 (by decide) ?_
        exact h0 _
      refine zk_iload_n hX dX12_turned_4 rfl ?_
      refine zk_aload_n hX dX12_turned_5 rfl ?_
      refine zk_getI hX dX12_turned_6 flX12_199 k_166 z_166 ?_
      rw [hM.1.2.2]
      refine zk_icmp_ge (tgt := 85) hX dX12_turned_9 (by decide) (fun c9 => ?_) (fun c9 => ?_)
      · exact absurd c9 (nI_ge (by omega) (by omega))
      refine zk_iload_n hX dX12_turned_12 rfl ?_
      refine zk_if_lt (tgt := 35) hX dX12_turned_13 (by decide) (fun c13 => ?_) (fun c13 => ?_)
      · exact k35 (by grind)
      · refine zk_aload_n hX dX12_turned_16 rfl ?_
        refine zk_getR hX dX12_turned_17 flX12_32 k_166 z_166 (hw _ _ (by decide) |>.trans r_166_14) ?_
        refine zk_iconst (v := 4) hX dX12_turned_20 (by decide) ?_
        refine zk_aload_n hX dX12_turned_21 rfl ?_
        refine zk_getR hX dX12_turned_22 flX12_35 k_166 z_166 (hw _ _ (by decide) |>.trans r_166_15) ?_
        refine zk_iconst (v := 3) hX dX12_turned_25 (by decide) ?_
        refine zk_iload_n hX dX12_turned_26 rfl ?_
        refine zk_imul hX dX12_turned_27 ?_
        refine zk_ialdE hX dX12_turned_28 (nI_mulE (nI_k 3 rfl) rfl) k_175 z_175 (by first | assumption | omega) rfl ?_
        rw [hMj.1]
        refine zk_imul hX dX12_turned_29 ?_
        refine zk_ialdE hX dX12_turned_30 (nI_mulE (nI_k 4 rfl) rfl) k_174 z_174 (by first | assumption | omega) rfl ?_
        rw [hMf.1]
        refine zk_iload_n hX dX12_turned_31 rfl ?_
        refine zk_icmp_ne (tgt := 39) hX dX12_turned_32 (by decide) (fun c32 => ?_) (fun c32 => ?_)
        · exact k39 (by grind)
        · exact k35 (by grind)
  refine zk_iconst (v := 0) hX dX12_turned_0 (by decide) ?_
  refine zk_istore_n (lo' := [_, _, _, _, _]) hX dX12_turned_1 (Nat.le_of_ble_eq_true rfl) rfl rfl ?_
  refine zk_iconst (v := 0) hX dX12_turned_2 (by decide) ?_
  refine zk_istore_n (lo' := [_, _, _, _, _]) hX dX12_turned_3 (Nat.le_of_ble_eq_true rfl) rfl rfl ?_
  exact loop (dJ D) 0 _ (by omega)
/-- HELD 1, STRAINED 2, BARRED 3 -/
def zkd (D : zD) (t : Nat → Int32) (o : Int32) (T : Nat) : Int32 := if 0 < zwrL zno (zP D t o) then 3 else if T < zldo D t o (dJ D) then 2 else 1
theorem zP_len {D : zD} (hD : zDok D) (t : Nat → Int32) (o : Int32) : (zP D t o).length ≤ 14 := by
  have := zLf_len (D := D) (t := t) (o := o) (dF D)
  have := hD.1
  have := hD.2.2.2.1
  unfold zP
  omega
theorem s_X12_kindNow {G : zG} {w : zW} {D : zD} {T : Nat} (hw : zWf w) (hM : mHd w D) (hD : zDok D) (hT : zT2 D (w.1 179)) {o : Int32} (ho : o = -1 ∨ 0 ≤ o) (hP : zPts w (zP D (w.1 179) o)) (hS : w.1 166 24 = nI T) (hT9 : T ≤ 99) :
    zEi G mX12_kindNow [.ref 166, .int o] w (zkd D (w.1 179) o T) w := by
  have hl := zP_len hD (w.1 179) o
  have h1 := zwrL_le (zP D (w.1 179) o) zno
  have h2 := zldo_le (o := o) hT (Nat.le_refl _)
  have h6 := hD.1.2.2
  refine zC_of (lo := [_, _]) kcX12_kindNow (Nat.le_of_ble_eq_true rfl) rfl (fun X hX hE => ?_)
  refine zk_aload_n hX dX12_kindNow_0 rfl ?_
  refine zk_V0i hX dX12_kindNow_1 kcX12_wrongMany mlX12_245 viX12_wrongMany rfl k_166 z_166 (s_X12_wrongMany hw hP hl) (Nat.le_of_ble_eq_true rfl) rfl ?_
  refine zk_if_le (tgt := 11) hX dX12_kindNow_4 (by decide) (fun c4 => ?_) (fun c4 => ?_)
  · refine zk_aload_n hX dX12_kindNow_11 rfl ?_
    refine zk_iload_n hX dX12_kindNow_12 rfl ?_
    refine zk_V1i hX dX12_kindNow_13 kcX12_turned mlX12_248 viX12_turned rfl k_166 z_166 (s_X12_turned hw hM hD hT ho) (Nat.le_of_ble_eq_true rfl) rfl ?_
    refine zk_aload_n hX dX12_kindNow_16 rfl ?_
    refine zk_getI hX dX12_kindNow_17 flX12_121 k_166 z_166 ?_
    rw [hS]
    refine zk_icmp_le (tgt := 27) hX dX12_kindNow_20 (by decide) (fun c20 => ?_) (fun c20 => ?_)
    · refine zk_iconst (v := 1) hX dX12_kindNow_27 (by decide) ?_
      refine zk_iret hX hE rfl ⟨rfl, rfl⟩ dX12_kindNow_28 ⟨_, rfl, ?_⟩
      refine ⟨?_, rfl⟩
      unfold zkd
      first
        | (rw [if_pos (Nat.pos_of_ne_zero (fun q => c4 (by rw [q]; decide)))])
        | (rw [if_neg (fun q => nI_nle q (by omega) c4), if_pos (nI_ltD c20)])
        | (rw [if_neg (fun q => nI_nle q (by omega) c4), if_neg (by have := nI_leD c20; omega)])
    · refine zk_iconst (v := 2) hX dX12_kindNow_23 (by decide) ?_
      refine zk_goto (tgt := 28) hX dX12_kindNow_24 (by decide) ?_
      refine zk_iret hX hE rfl ⟨rfl, rfl⟩ dX12_kindNow_28 ⟨_, rfl, ?_⟩
      refine ⟨?_, rfl⟩
      unfold zkd
      first
        | (rw [if_pos (Nat.pos_of_ne_zero (fun q => c4 (by rw [q]; decide)))])
        | (rw [if_neg (fun q => nI_nle q (by omega) c4), if_pos (nI_ltD c20)])
        | (rw [if_neg (fun q => nI_nle q (by omega) c4), if_neg (by have := nI_leD c20; omega)])
  · refine zk_iconst (v := 3) hX dX12_kindNow_7 (by decide) ?_
    refine zk_goto (tgt := 28) hX dX12_kindNow_8 (by decide) ?_
    refine zk_iret hX hE rfl ⟨rfl, rfl⟩ dX12_kindNow_28 ⟨_, rfl, ?_⟩
    refine ⟨?_, rfl⟩
    unfold zkd
    first
      | (rw [if_pos (Nat.pos_of_ne_zero (fun q => c4 (by rw [q]; decide)))])
      | (rw [if_neg (fun q => nI_nle q (by omega) c4), if_pos (nI_ltD c20)])
      | (rw [if_neg (fun q => nI_nle q (by omega) c4), if_neg (by have := nI_leD c20; omega)])
/-! turns and their number -/
theorem s_X12_least {G : zG} {w : zW} {D : zD} (hw : zWf w) (hM : mHd w D) (hD : zDok D) {j : Nat} (hj : j < dJ D) : zEi G mX12_least [.ref 166, .int (nI j)] w (-nI (dB D j)) w := by
  have h6 := hD.1.2.2
  refine zC_of (lo := [_, _]) kcX12_least (Nat.le_of_ble_eq_true rfl) rfl (fun X hX hE => ?_)
  refine zk_aload_n hX dX12_least_0 rfl ?_
  refine zk_getR hX dX12_least_1 flX12_35 k_166 z_166 (hw _ _ (by decide) |>.trans r_166_15) ?_
  refine zk_iconst (v := 3) hX dX12_least_4 (by decide) ?_
  refine zk_iload_n hX dX12_least_5 rfl ?_
  refine zk_imul hX dX12_least_6 ?_
  refine zk_iconst (v := 1) hX dX12_least_7 (by decide) ?_
  refine zk_iadd hX dX12_least_8 ?_
  refine zk_ialdE hX dX12_least_9 (nI_addE (nI_mulE (nI_k 3 rfl) rfl) (nI_k 1 rfl)) k_175 z_175 (by first | assumption | omega) rfl ?_
  rw [(hM.2.2.2 j hj).2.1]
  refine zk_ineg hX dX12_least_10 ?_
  refine zk_iret hX hE rfl ⟨rfl, rfl⟩ dX12_least_11 ⟨_, rfl, ?_⟩
  exact ⟨rfl, rfl⟩
theorem s_X12_most {G : zG} {w : zW} {D : zD} (hw : zWf w) (hM : mHd w D) (hD : zDok D) {j : Nat} (hj : j < dJ D) : zEi G mX12_most [.ref 166, .int (nI j)] w (nI (dA D j)) w := by
  have h6 := hD.1.2.2
  refine zC_of (lo := [_, _]) kcX12_most (Nat.le_of_ble_eq_true rfl) rfl (fun X hX hE => ?_)
  refine zk_aload_n hX dX12_most_0 rfl ?_
  refine zk_getR hX dX12_most_1 flX12_35 k_166 z_166 (hw _ _ (by decide) |>.trans r_166_15) ?_
  refine zk_iconst (v := 3) hX dX12_most_4 (by decide) ?_
  refine zk_iload_n hX dX12_most_5 rfl ?_
  refine zk_imul hX dX12_most_6 ?_
  refine zk_iconst (v := 2) hX dX12_most_7 (by decide) ?_
  refine zk_iadd hX dX12_most_8 ?_
  refine zk_ialdE hX dX12_most_9 (nI_addE (nI_mulE (nI_k 3 rfl) rfl) (nI_k 2 rfl)) k_175 z_175 (by first | assumption | omega) rfl ?_
  rw [(hM.2.2.2 j hj).2.2]
  refine zk_iret hX hE rfl ⟨rfl, rfl⟩ dX12_most_10 ⟨_, rfl, ?_⟩
  exact ⟨rfl, rfl⟩
theorem zspan_eq {D : zD} {j : Nat} : nI (dA D j) - -nI (dB D j) + 1 = nI (zsp D j) := by
  unfold zsp
  rw [← nI_1, ← nI_add]
  grind
theorem zpr_le {D : zD} (hD : zDok D) {m : Nat} (hm : m ≤ dJ D) : zpr (zsp D) m ≤ 15625 := by
  have h6 := hD.1.2.2
  have key : ∀ m, m ≤ dJ D → zpr (zsp D) m ≤ 5 ^ m := by
    intro m
    induction m with
    | zero => intro _; exact Nat.le_refl _
    | succ m ih =>
      intro h
      have h1 := ih (by omega)
      have h2 := (zsp_b hD (show m < dJ D by omega)).2
      show zpr (zsp D) m * zsp D m ≤ 5 ^ (m + 1)
      rw [Nat.pow_succ]
      exact Nat.mul_le_mul h1 h2
  exact Nat.le_trans (key m hm) (Nat.le_trans (Nat.pow_le_pow_right (by decide) (show m ≤ 6 by omega)) (by decide))
theorem s_X12_turnsMany {G : zG} {w : zW} {D : zD} (hw : zWf w) (hM : mHd w D) (hD : zDok D) : zEi G mX12_turnsMany [.ref 166] w (nI (zpr (zsp D) (dJ D))) w := by
  have h6 := hD.1.2.2
  refine zC_of (lo := [_, _, _]) kcX12_turnsMany (Nat.le_of_ble_eq_true rfl) rfl (fun X hX hE => ?_)
  have loop : ∀ z j, j + z = dJ D → zk0 G X mX12_turnsMany 4 [.ref 166, .int (nI (zpr (zsp D) j)), .int (nI j)] [] w := by
    intro z
    induction z with
    | zero =>
      intro j hj
      obtain rfl : j = dJ D := by omega
      refine zk_iload_n hX dX12_turnsMany_4 rfl ?_
      refine zk_aload_n hX dX12_turnsMany_5 rfl ?_
      refine zk_getI hX dX12_turnsMany_6 flX12_199 k_166 z_166 ?_
      rw [hM.1.2.2]
      refine zk_icmp_ge (tgt := 34) hX dX12_turnsMany_9 (by decide) (fun c9 => ?_) (fun c9 => ?_)
      rotate_left
      · exact absurd (nI_le (Nat.le_refl _) (by omega)) c9
      refine zk_iload_n hX dX12_turnsMany_34 rfl ?_
      refine zk_iret hX hE rfl ⟨rfl, rfl⟩ dX12_turnsMany_35 ⟨_, rfl, ?_⟩
      exact ⟨rfl, rfl⟩
    | succ z ih =>
      intro j hj
      refine zk_iload_n hX dX12_turnsMany_4 rfl ?_
      refine zk_aload_n hX dX12_turnsMany_5 rfl ?_
      refine zk_getI hX dX12_turnsMany_6 flX12_199 k_166 z_166 ?_
      rw [hM.1.2.2]
      refine zk_icmp_ge (tgt := 34) hX dX12_turnsMany_9 (by decide) (fun c9 => ?_) (fun c9 => ?_)
      · exact absurd c9 (nI_ge (by omega) (by omega))
      refine zk_iload_n hX dX12_turnsMany_12 rfl ?_
      refine zk_aload_n hX dX12_turnsMany_13 rfl ?_
      refine zk_iload_n hX dX12_turnsMany_14 rfl ?_
      refine zk_V1i hX dX12_turnsMany_15 kcX12_most mlX12_251 viX12_most rfl k_166 z_166 (s_X12_most hw hM hD (by omega)) (Nat.le_of_ble_eq_true rfl) rfl ?_
      refine zk_aload_n hX dX12_turnsMany_18 rfl ?_
      refine zk_iload_n hX dX12_turnsMany_19 rfl ?_
      refine zk_V1i hX dX12_turnsMany_20 kcX12_least mlX12_254 viX12_least rfl k_166 z_166 (s_X12_least hw hM hD (by omega)) (Nat.le_of_ble_eq_true rfl) rfl ?_
      refine zk_isub hX dX12_turnsMany_23 ?_
      refine zk_iconst (v := 1) hX dX12_turnsMany_24 (by decide) ?_
      refine zk_iadd hX dX12_turnsMany_25 ?_
      rw [zspan_eq]
      refine zk_imul hX dX12_turnsMany_26 ?_
      rw [nI_mul]
      refine zk_istore_n (lo' := [_, _, _]) hX dX12_turnsMany_27 (Nat.le_of_ble_eq_true rfl) rfl rfl ?_
      refine zk_iinc (lo' := [_, _, _]) hX dX12_turnsMany_28 rfl (by first | exact zinc _ | exact rfl) (Nat.le_of_ble_eq_true rfl) rfl rfl ?_
      refine zk_goto (tgt := 4) hX dX12_turnsMany_31 (by decide) ?_
      exact ih (j + 1) (by omega)
  refine zk_iconst (v := 1) hX dX12_turnsMany_0 (by decide) ?_
  refine zk_istore_n (lo' := [_, _, _]) hX dX12_turnsMany_1 (Nat.le_of_ble_eq_true rfl) rfl rfl ?_
  refine zk_iconst (v := 0) hX dX12_turnsMany_2 (by decide) ?_
  refine zk_istore_n (lo' := [_, _, _]) hX dX12_turnsMany_3 (Nat.le_of_ble_eq_true rfl) rfl rfl ?_
  exact loop (dJ D) 0 (by omega)
/-- turns by digits -/
def ztv (D : zD) (d : Nat → Nat) (j : Nat) : Int32 := nI (d j) - nI (dB D j)
abbrev zcode_t (D : zD) (i : Nat) : Nat → Int32 := ztv D (zdg (zsp D) (dJ D) i)
theorem ztv_2 {D : zD} (hD : zDok D) {d : Nat → Nat} (h : ∀ j, j < dJ D → d j < zsp D j) : zT2 D (ztv D d) := by
  intro j hj
  have h1 := h j hj
  have h2 := hD.2.2.2.2.1 j hj
  unfold zsp at h1
  unfold ztv
  exact (by decide +kernel : ∀ d, d < 5 → ∀ b, b < 3 → d ≤ b + 2 → (-2 ≤ nI d - nI b ∧ nI d - nI b ≤ 2)) _ (by omega) _ (by omega) (by omega)
theorem zcode_2 {D : zD} (hD : zDok D) (i : Nat) : zT2 D (zcode_t D i) := ztv_2 hD (fun j hj => zdg_lt i (zsp_b hD hj).1 hj)
theorem zT2_c {D : zD} {t t' : Nat → Int32} (h : zT2 D t) (e : ∀ j, j < dJ D → t' j = t j) : zT2 D t' := fun j hj => by rw [e j hj]; exact h j hj
theorem s_X12_layTurns {G : zG} {w : zW} {D : zD} (hw : zWf w) (hM : mHd w D) (hD : zDok D) {i : Nat} (hi : i < 20000) :
    zCv G mX12_layTurns [.ref 166, .int (nI i)] w (fun w' => zFr [179] [] [] w w' ∧ ∀ j, j < dJ D → w'.1 179 j = zcode_t D i j) := by
  have h6 := hD.1.2.2
  refine zC_of (lo := [_, _, _, _, _]) kcX12_layTurns (Nat.le_of_ble_eq_true rfl) rfl (fun X hX hE => ?_)
  have loop : ∀ m r w1 (v : Value), m ≤ dJ D → r < 20000 → zFr [179] [] [] w w1 → (∀ j, j < m → zdg (zsp D) (dJ D) i j = zdg (zsp D) m r j) → (∀ j, m ≤ j → j < dJ D → w1.1 179 j = zcode_t D i j) → zk0 G X mX12_layTurns 9 [.ref 166, .int (nI i), .int (nI r), .int (nI m - 1), v] [] w1 := by
    intro m
    induction m with
    | zero =>
      intro r w1 v _ hr hFr h1 h2
      have hw1 := zFr_wf hFr hw
      refine zk_iload_n hX dX12_layTurns_9 rfl ?_
      refine zk_if_lt (tgt := 55) hX dX12_layTurns_10 (by decide) (fun c10 => ?_) (fun c10 => ?_)
      rotate_left
      · exact absurd (by decide) c10
      refine zk_vret hX hE rfl ⟨rfl, rfl⟩ dX12_layTurns_55 ⟨rfl, ?_⟩
      exact ⟨hFr, fun j hj => h2 j (by omega) hj⟩
    | succ m ih =>
      intro r w1 v hm hr hFr h1 h2
      have hw1 := zFr_wf hFr hw
      have hM1 := mHd_f hM hFr (by decide)
      have hsp := zsp_b hD (show m < dJ D by omega)
      have em : nI (m + 1) - 1 = nI m := nI_pred m
      have ed : zdg (zsp D) (dJ D) i m = r % zsp D m := by
        rw [h1 m (by omega)]
        show (if m = m then _ else _) = _
        rw [if_pos rfl]
      rw [em]
      refine zk_iload_n hX dX12_layTurns_9 rfl ?_
      refine zk_if_lt (tgt := 55) hX dX12_layTurns_10 (by decide) (fun c10 => ?_) (fun c10 => ?_)
      · exact absurd c10 (nI_pos (by omega))
      refine zk_aload_n hX dX12_layTurns_13 rfl ?_
      refine zk_iload_n hX dX12_layTurns_14 rfl ?_
      refine zk_V1i hX dX12_layTurns_15 kcX12_most mlX12_251 viX12_most rfl k_166 z_166 (s_X12_most hw1 hM1 hD (by omega)) (Nat.le_of_ble_eq_true rfl) rfl ?_
      refine zk_aload_n hX dX12_layTurns_18 rfl ?_
      refine zk_iload_n hX dX12_layTurns_19 rfl ?_
      refine zk_V1i hX dX12_layTurns_20 kcX12_least mlX12_254 viX12_least rfl k_166 z_166 (s_X12_least hw1 hM1 hD (by omega)) (Nat.le_of_ble_eq_true rfl) rfl ?_
      refine zk_isub hX dX12_layTurns_23 ?_
      refine zk_iconst (v := 1) hX dX12_layTurns_24 (by decide) ?_
      refine zk_iadd hX dX12_layTurns_25 ?_
      rw [zspan_eq]
      refine zk_istore (lo' := [_, _, _, _, _]) hX dX12_layTurns_26 (Nat.le_of_ble_eq_true rfl) rfl rfl ?_
      refine zk_aload_n hX dX12_layTurns_28 rfl ?_
      refine zk_getR hX dX12_layTurns_29 flX12_47 k_166 z_166 (hw1 _ _ (by decide) |>.trans r_166_28) ?_
      refine zk_iload_n hX dX12_layTurns_32 rfl ?_
      refine zk_iload_n hX dX12_layTurns_33 rfl ?_
      refine zk_iload hX dX12_layTurns_34 rfl ?_
      refine zk_irem hX dX12_layTurns_36 (nI_ne0 (by omega) (by omega)) ?_
      rw [nI_rem (by omega) (by omega)]
      refine zk_aload_n hX dX12_layTurns_37 rfl ?_
      refine zk_iload_n hX dX12_layTurns_38 rfl ?_
      refine zk_V1i hX dX12_layTurns_39 kcX12_least mlX12_254 viX12_least rfl k_166 z_166 (s_X12_least hw1 hM1 hD (by omega)) (Nat.le_of_ble_eq_true rfl) rfl ?_
      refine zk_iadd hX dX12_layTurns_42 ?_
      rw [← Int32.sub_eq_add_neg, ← ed]
      refine zk_iastE hX dX12_layTurns_43 rfl k_179 z_179 (by first | assumption | omega) rfl ?_
      refine zk_iload_n hX dX12_layTurns_44 rfl ?_
      refine zk_iload hX dX12_layTurns_45 rfl ?_
      refine zk_idiv hX dX12_layTurns_47 (nI_ne0 (by omega) (by omega)) ?_
      rw [nI_div (by omega) (by omega)]
      refine zk_istore_n (lo' := [_, _, _, _, _]) hX dX12_layTurns_48 (Nat.le_of_ble_eq_true rfl) rfl rfl ?_
      refine zk_iinc (lo' := [_, _, _, _, _]) hX dX12_layTurns_49 rfl (by exact zdec1 _) (Nat.le_of_ble_eq_true rfl) rfl rfl ?_
      refine zk_goto (tgt := 9) hX dX12_layTurns_52 (by decide) ?_
      refine ih _ _ _ (by omega) (Nat.lt_of_le_of_lt (Nat.div_le_self _ _) hr) (zFr_t hFr (zFr_i (by decide) (by decide))) (fun j hj => ?_) (fun j hj1 hj2 => ?_)
      · rw [h1 j (by omega)]
        show (if j = m then _ else _) = _
        rw [if_neg (by omega)]
      · rw [zsi_1]
        by_cases q : j = m
        · subst q
          rw [if_pos ⟨rfl, rfl⟩]
          rfl
        · rw [if_neg (by omega)]
          exact h2 j (by omega) hj2
  refine zk_iload_n hX dX12_layTurns_0 rfl ?_
  refine zk_istore_n (lo' := [_, _, _, _, _]) hX dX12_layTurns_1 (Nat.le_of_ble_eq_true rfl) rfl rfl ?_
  refine zk_aload_n hX dX12_layTurns_2 rfl ?_
  refine zk_getI hX dX12_layTurns_3 flX12_199 k_166 z_166 ?_
  rw [hM.1.2.2]
  refine zk_iconst (v := 1) hX dX12_layTurns_6 (by decide) ?_
  refine zk_isub hX dX12_layTurns_7 ?_
  refine zk_istore_n (lo' := [_, _, _, _, _]) hX dX12_layTurns_8 (Nat.le_of_ble_eq_true rfl) rfl rfl ?_
  exact loop (dJ D) i w _ (Nat.le_refl _) hi zFr_r (fun j hj => rfl) (fun j h1 h2 => absurd h1 (by omega))
theorem s_X12_codeNow {G : zG} {w : zW} {D : zD} (hw : zWf w) (hM : mHd w D) (hD : zDok D) {d : Nat → Nat} (ht : ∀ j, j < dJ D → w.1 179 j = ztv D d j) : zEi G mX12_codeNow [.ref 166] w (nI (zcd (zsp D) d (dJ D))) w := by
  have h6 := hD.1.2.2
  refine zC_of (lo := [_, _, _]) kcX12_codeNow (Nat.le_of_ble_eq_true rfl) rfl (fun X hX hE => ?_)
  have loop : ∀ z j, j + z = dJ D → zk0 G X mX12_codeNow 4 [.ref 166, .int (nI (zcd (zsp D) d j)), .int (nI j)] [] w := by
    intro z
    induction z with
    | zero =>
      intro j hj
      obtain rfl : j = dJ D := by omega
      refine zk_iload_n hX dX12_codeNow_4 rfl ?_
      refine zk_aload_n hX dX12_codeNow_5 rfl ?_
      refine zk_getI hX dX12_codeNow_6 flX12_199 k_166 z_166 ?_
      rw [hM.1.2.2]
      refine zk_icmp_ge (tgt := 47) hX dX12_codeNow_9 (by decide) (fun c9 => ?_) (fun c9 => ?_)
      rotate_left
      · exact absurd (nI_le (Nat.le_refl _) (by omega)) c9
      refine zk_iload_n hX dX12_codeNow_47 rfl ?_
      refine zk_iret hX hE rfl ⟨rfl, rfl⟩ dX12_codeNow_48 ⟨_, rfl, ?_⟩
      exact ⟨rfl, rfl⟩
    | succ z ih =>
      intro j hj
      have h0 := ih (j + 1) (by omega)
      have e0 : nI (zcd (zsp D) d j * zsp D j) + (nI (d j) - nI (dB D j)) - -nI (dB D j) = nI (zcd (zsp D) d (j + 1)) := by
        show _ = nI (zcd (zsp D) d j * zsp D j + d j)
        rw [← nI_add]
        grind
      refine zk_iload_n hX dX12_codeNow_4 rfl ?_
      refine zk_aload_n hX dX12_codeNow_5 rfl ?_
      refine zk_getI hX dX12_codeNow_6 flX12_199 k_166 z_166 ?_
      rw [hM.1.2.2]
      refine zk_icmp_ge (tgt := 47) hX dX12_codeNow_9 (by decide) (fun c9 => ?_) (fun c9 => ?_)
      · exact absurd c9 (nI_ge (by omega) (by omega))
      refine zk_iload_n hX dX12_codeNow_12 rfl ?_
      refine zk_aload_n hX dX12_codeNow_13 rfl ?_
      refine zk_iload_n hX dX12_codeNow_14 rfl ?_
      refine zk_V1i hX dX12_codeNow_15 kcX12_most mlX12_251 viX12_most rfl k_166 z_166 (s_X12_most hw hM hD (by omega)) (Nat.le_of_ble_eq_true rfl) rfl ?_
      refine zk_aload_n hX dX12_codeNow_18 rfl ?_
      refine zk_iload_n hX dX12_codeNow_19 rfl ?_
      refine zk_V1i hX dX12_codeNow_20 kcX12_least mlX12_254 viX12_least rfl k_166 z_166 (s_X12_least hw hM hD (by omega)) (Nat.le_of_ble_eq_true rfl) rfl ?_
      refine zk_isub hX dX12_codeNow_23 ?_
      refine zk_iconst (v := 1) hX dX12_codeNow_24 (by decide) ?_
      refine zk_iadd hX dX12_codeNow_25 ?_
      rw [zspan_eq]
      refine zk_imul hX dX12_codeNow_26 ?_
      rw [nI_mul]
      refine zk_aload_n hX dX12_codeNow_27 rfl ?_
      refine zk_getR hX dX12_codeNow_28 flX12_47 k_166 z_166 (hw _ _ (by decide) |>.trans r_166_28) ?_
      refine zk_iload_n hX dX12_codeNow_31 rfl ?_
      refine zk_ialdE hX dX12_codeNow_32 rfl k_179 z_179 (by first | assumption | omega) rfl ?_
      rw [ht j (by omega)]
      refine zk_iadd hX dX12_codeNow_33 ?_
      refine zk_aload_n hX dX12_codeNow_34 rfl ?_
      refine zk_iload_n hX dX12_codeNow_35 rfl ?_
      refine zk_V1i hX dX12_codeNow_36 kcX12_least mlX12_254 viX12_least rfl k_166 z_166 (s_X12_least hw hM hD (by omega)) (Nat.le_of_ble_eq_true rfl) rfl ?_
      refine zk_isub hX dX12_codeNow_39 ?_
      rw [show nI (zcd (zsp D) d j * zsp D j) + ztv D d j - -nI (dB D j) = nI (zcd (zsp D) d (j + 1)) from e0]
      refine zk_istore_n (lo' := [_, _, _]) hX dX12_codeNow_40 (Nat.le_of_ble_eq_true rfl) rfl rfl ?_
      refine zk_iinc (lo' := [_, _, _]) hX dX12_codeNow_41 rfl (by first | exact zinc _ | exact rfl) (Nat.le_of_ble_eq_true rfl) rfl rfl ?_
      refine zk_goto (tgt := 4) hX dX12_codeNow_44 (by decide) ?_
      exact h0
  refine zk_iconst (v := 0) hX dX12_codeNow_0 (by decide) ?_
  refine zk_istore_n (lo' := [_, _, _]) hX dX12_codeNow_1 (Nat.le_of_ble_eq_true rfl) rfl rfl ?_
  refine zk_iconst (v := 0) hX dX12_codeNow_2 (by decide) ?_
  refine zk_istore_n (lo' := [_, _, _]) hX dX12_codeNow_3 (Nat.le_of_ble_eq_true rfl) rfl rfl ?_
  exact loop (dJ D) 0 (by omega)
theorem zkd_c {D : zD} (hD : zDok D) {t t' : Nat → Int32} {o : Int32} {T : Nat} (e : ∀ j, j < dJ D → t j = t' j) : zkd D t o T = zkd D t' o T := by
  have e1 : zP D t o = zP D t' o := zLf_c hD (Nat.le_refl _) (fun f hf _ k hk => e _ (zoff_in hD hf hk))
  have e2 : zldo D t o (dJ D) = zldo D t' o (dJ D) := zsm_c (fun j hj => by rw [e j hj])
  unfold zkd
  rw [e1, e2]
theorem zP_c {D : zD} (hD : zDok D) {t t' : Nat → Int32} {o : Int32} (e : ∀ j, j < dJ D → t j = t' j) : zP D t o = zP D t' o := zLf_c hD (Nat.le_refl _) (fun f hf _ k hk => e _ (zoff_in hD hf hk))
theorem s_X12_isHeld {G : zG} {w : zW} {D : zD} {T i : Nat} (hw : zWf w) (hM : mHd w D) (hD : zDok D) {o : Int32} (ho : o = -1 ∨ 0 ≤ o) (hS : w.1 166 24 = nI T) (hT9 : T ≤ 99) (hi : i < 20000) :
    zCi G mX12_isHeld [.ref 166, .int (nI i), .int o] w (fun r w' => r = zb (zkd D (zcode_t D i) o T = 1) ∧ zFr [179, 180, 181] [] [29] w w' ∧ (∀ j, j < dJ D → w'.1 179 j = zcode_t D i j) ∧ zPts w' (zP D (zcode_t D i) o)) := by
  refine zC_of (lo := [_, _, _]) kcX12_isHeld (Nat.le_of_ble_eq_true rfl) rfl (fun X hX hE => ?_)
  refine zk_aload_n hX dX12_isHeld_0 rfl ?_
  refine zk_iload_n hX dX12_isHeld_1 rfl ?_
  refine zk_V1vp hX dX12_isHeld_2 kcX12_layTurns mlX12_257 viX12_layTurns rfl k_166 z_166 (s_X12_layTurns hw hM hD hi) (Nat.le_of_ble_eq_true rfl) rfl (fun w1 q1 => ?_)
  have hw1 := zFr_wf q1.1 hw
  have hM1 := mHd_f hM q1.1 (by decide)
  have hT1 := zT2_c (zcode_2 hD i) q1.2
  refine zk_aload_n hX dX12_isHeld_5 rfl ?_
  refine zk_iload_n hX dX12_isHeld_6 rfl ?_
  refine zk_V1vp hX dX12_isHeld_7 kcX12_layPoints mlX12_260 viX12_layPoints rfl k_166 z_166 (s_X12_layPoints hw1 hM1 hD hT1 ho) (Nat.le_of_ble_eq_true rfl) rfl (fun w2 q2 => ?_)
  have hw2 := zFr_wf q2.1 hw1
  have hM2 := mHd_f hM1 q2.1 (by decide)
  have e9 : w2.1 179 = w1.1 179 := q2.1.2.1 179 (by decide) (by decide)
  have e24 : w2.1 166 24 = nI T := by rw [q2.1.2.2.2 24 (by decide), q1.1.2.2.2 24 (by decide), hS]
  refine zk_aload_n hX dX12_isHeld_10 rfl ?_
  refine zk_iload_n hX dX12_isHeld_11 rfl ?_
  refine zk_V1i hX dX12_isHeld_12 kcX12_kindNow mlX12_263 viX12_kindNow rfl k_166 z_166 (s_X12_kindNow hw2 hM2 hD (by rw [e9]; exact hT1) ho (by rw [e9]; exact q2.2) e24 hT9) (Nat.le_of_ble_eq_true rfl) rfl ?_
  have ek : zkd D (w2.1 179) o T = zkd D (zcode_t D i) o T := zkd_c hD (fun j hj => by rw [e9]; exact q1.2 j hj)
  rw [ek]
  refine zk_iconst (v := 1) hX dX12_isHeld_15 (by decide) ?_
  refine zk_icmp_ne (tgt := 23) hX dX12_isHeld_16 (by decide) (fun c16 => ?_) (fun c16 => ?_)
  · refine zk_iconst (v := 0) hX dX12_isHeld_23 (by decide) ?_
    refine zk_zret hX hE rfl ⟨rfl, rfl⟩ dX12_isHeld_24 rfl ⟨_, rfl, ?_⟩
    refine ⟨by first | exact zb_t' (by grind) | exact zb_f' (by grind), zFr_t (zFr_s q1.1 (by decide)) (zFr_s q2.1 (by decide)), fun j hj => by rw [e9]; exact q1.2 j hj, ?_⟩
    have h9 := q2.2
    rw [zP_c hD q1.2] at h9
    exact h9
  · refine zk_iconst (v := 1) hX dX12_isHeld_19 (by decide) ?_
    refine zk_goto (tgt := 24) hX dX12_isHeld_20 (by decide) ?_
    refine zk_zret hX hE rfl ⟨rfl, rfl⟩ dX12_isHeld_24 rfl ⟨_, rfl, ?_⟩
    refine ⟨by first | exact zb_t' (by grind) | exact zb_f' (by grind), zFr_t (zFr_s q1.1 (by decide)) (zFr_s q2.1 (by decide)), fun j hj => by rw [e9]; exact q1.2 j hj, ?_⟩
    have h9 := q2.2
    rw [zP_c hD q1.2] at h9
    exact h9
